/-! the law's loop -/
theorem lCmp_self (a : Int) : lCmp a a = 0 := by
  unfold lCmp
  rw [if_neg (Int.lt_irrefl a), if_pos rfl]
theorem scr_I32 {L : Nat} {xs : Nat → Int32} (j : Int) (h : 0 ≤ j) : I32 (w0 L xs (-2) j) := by
  unfold w0
  rw [if_pos rfl, if_neg (by omega)]
  have h1 := Int32.le_toInt (xs j.toNat)
  have h2 := Int32.toInt_lt (xs j.toNat)
  unfold I32
  omega
set_option maxRecDepth 20000 in
set_option maxHeartbeats 4000000 in
theorem l_law {L : Nat} {xs : Nat → Int32} (hL : L ≤ 384) : ∀ (k : Nat) (i : Int) (w : Hp), 0 ≤ i → (L : Int) - 6 - i < 6 * k → Inv w → w (-2) = w0 L xs (-2) → WP SH 10 0 18 [some (vR (-2)), some (vR 0), some (vR 100), some (vI i)] [] w (fun v _ => v = some (vI 1)) := by
  intro k
  induction k with
  | zero =>
    intro i w h0 hik hI hw
    have hlen : w (-2) (-1) = (L : Int) := by rw [hw]; rfl
    have hs : ∀ j : Int, 0 ≤ j → I32 (w (-2) j) := fun j hj => by rw [hw]; exact scr_I32 j hj
    refine wp_iload_n (pc' := 19) rfl rfl rfl ?_
    refine wp_aload_n (pc' := 20) rfl rfl rfl (by decide) ?_
    refine wp_alenO (pc' := 21) rfl rfl (by omega) ?_
    refine wp_bipush (a := 6) (pc' := 23) rfl rfl rfl ?_
    refine wp_isub (pc' := 24) rfl rfl (by first | exact w32_id (by omega) (by omega) | rfl) ?_
    refine wp_icmp_gt (pc' := 27) (pt := 1358) rfl rfl rfl (fun q_1 => ?_) (fun q_1 => ?_)
    · skip
      refine wp_iconst (a := 1) (pc' := 1359) rfl rfl rfl ?_
      refine wp_ret rfl rfl rfl ?_
      rfl
    · skip
      exfalso; omega
  | succ k ih =>
    intro i w h0 hik hI hw
    have hlen : w (-2) (-1) = (L : Int) := by rw [hw]; rfl
    have hs : ∀ j : Int, 0 ≤ j → I32 (w (-2) j) := fun j hj => by rw [hw]; exact scr_I32 j hj
    refine wp_iload_n (pc' := 19) rfl rfl rfl ?_
    refine wp_aload_n (pc' := 20) rfl rfl rfl (by decide) ?_
    refine wp_alenO (pc' := 21) rfl rfl (by omega) ?_
    refine wp_bipush (a := 6) (pc' := 23) rfl rfl rfl ?_
    refine wp_isub (pc' := 24) rfl rfl (by first | exact w32_id (by omega) (by omega) | rfl) ?_
    refine wp_icmp_gt (pc' := 27) (pt := 1358) rfl rfl rfl (fun q_1 => ?_) (fun q_1 => ?_)
    · skip
      refine wp_iconst (a := 1) (pc' := 1359) rfl rfl rfl ?_
      refine wp_ret rfl rfl rfl ?_
      first | (exfalso; omega) | rfl
    · skip
      refine wp_aload_n (pc' := 28) rfl rfl rfl (by decide) ?_
      refine wp_iload_n (pc' := 29) rfl rfl rfl ?_
      refine wp_ialoadO (pc' := 30) rfl rfl (by decide) rfl (by omega) ?_
      refine wp_bipush (a := 63) (pc' := 32) rfl rfl rfl ?_
      refine wp_iand (pc' := 33) rfl rfl rfl ?_
      refine wp_swE (0) (pt := 220) rfl (by decide) rfl rfl (fun q_2 => ?_) (fun q_2 => ?_)
      · skip
        refine wp_aload_n (pc' := 221) rfl rfl rfl (by decide) ?_
        refine wp_aload_n (pc' := 222) rfl rfl rfl (by decide) ?_
        refine wp_iload_n (pc' := 223) rfl rfl rfl ?_
        refine wp_iconst (a := 1) (pc' := 224) rfl rfl rfl ?_
        refine wp_iadd (pc' := 225) rfl rfl (by first | exact w32_id (by omega) (by omega) | rfl) ?_
        refine wp_ialoadO (pc' := 226) rfl rfl (by decide) rfl (by omega) ?_
        refine wp_aload_n (pc' := 227) rfl rfl rfl (by decide) ?_
        refine wp_iload_n (pc' := 228) rfl rfl rfl ?_
        refine wp_iconst (a := 2) (pc' := 229) rfl rfl rfl ?_
        refine wp_iadd (pc' := 230) rfl rfl (by first | exact w32_id (by omega) (by omega) | rfl) ?_
        refine wp_ialoadO (pc' := 231) rfl rfl (by decide) rfl (by omega) ?_
        refine wp_call (pc' := 234) rfl rfl rfl rfl rfl ⟨Nat.le_of_ble_eq_true rfl, Nat.le_of_ble_eq_true rfl, Nat.le_of_ble_eq_true rfl, Nat.le_of_ble_eq_true rfl, Nat.le_of_ble_eq_true rfl⟩ rfl (p_row (d := 0) hI) ?_
        rintro v1 w1 ⟨a1, hv1, he1, hM⟩
        rw [hv1]
        clear hv1 v1
        have hlen1 : w1 (-2) (-1) = (L : Int) := by rw [he1]; exact hlen
        dsimp only [Option.toList, List.cons_append, List.nil_append, List.append_nil]
        refine wp_aload_n (pc' := 235) rfl rfl rfl (by decide) ?_
        refine wp_aload_n (pc' := 236) rfl rfl rfl (by decide) ?_
        refine wp_iload_n (pc' := 237) rfl rfl rfl ?_
        refine wp_iconst (a := 1) (pc' := 238) rfl rfl rfl ?_
        refine wp_iadd (pc' := 239) rfl rfl (by first | exact w32_id (by omega) (by omega) | rfl) ?_
        refine wp_ialoadO (pc' := 240) rfl rfl (by decide) rfl (by omega) ?_
        refine wp_aload_n (pc' := 241) rfl rfl rfl (by decide) ?_
        refine wp_iload_n (pc' := 242) rfl rfl rfl ?_
        refine wp_iconst (a := 2) (pc' := 243) rfl rfl rfl ?_
        refine wp_iadd (pc' := 244) rfl rfl (by first | exact w32_id (by omega) (by omega) | rfl) ?_
        refine wp_ialoadO (pc' := 245) rfl rfl (by decide) rfl (by omega) ?_
        try rw [he1]
        refine wp_call (pc' := 248) rfl rfl rfl rfl rfl ⟨Nat.le_of_ble_eq_true rfl, Nat.le_of_ble_eq_true rfl, Nat.le_of_ble_eq_true rfl, Nat.le_of_ble_eq_true rfl, Nat.le_of_ble_eq_true rfl⟩ rfl (hM) ?_
        rintro v2 w2 ⟨hv2, he2, hI2⟩
        rw [hv2]
        clear hv2 v2
        dsimp only [Option.toList, List.cons_append, List.nil_append, List.append_nil]
        refine wp_icmp_eq (pc' := 251) (pt := 1352) rfl rfl rfl (fun q_3 => ?_) (fun q_3 => ?_)
        · skip
          refine wp_iinc (pc' := 1355) rfl rfl rfl (inc_id (by omega) (by omega)) rfl ?_
          dsimp only [lset, lset2, List.set, List.getElem?_cons_zero, List.getElem?_cons_succ]
          refine wp_goto (pc' := 18) rfl rfl ?_
          exact ih (i + 6) w2 (by omega) (by omega) hI2 (by rw [he2, he1]; exact hw)
        · skip
          refine wp_iconst (a := 0) (pc' := 252) rfl rfl rfl ?_
          refine wp_ret rfl rfl rfl ?_
          first | (exfalso; omega) | rfl
      refine wp_swE (1) (pt := 253) rfl (by decide) rfl rfl (fun q_4 => ?_) (fun q_4 => ?_)
      · skip
        refine wp_aload_n (pc' := 254) rfl rfl rfl (by decide) ?_
        refine wp_aload_n (pc' := 255) rfl rfl rfl (by decide) ?_
        refine wp_iload_n (pc' := 256) rfl rfl rfl ?_
        refine wp_iconst (a := 1) (pc' := 257) rfl rfl rfl ?_
        refine wp_iadd (pc' := 258) rfl rfl (by first | exact w32_id (by omega) (by omega) | rfl) ?_
        refine wp_ialoadO (pc' := 259) rfl rfl (by decide) rfl (by omega) ?_
        refine wp_aload_n (pc' := 260) rfl rfl rfl (by decide) ?_
        refine wp_iload_n (pc' := 261) rfl rfl rfl ?_
        refine wp_iconst (a := 2) (pc' := 262) rfl rfl rfl ?_
        refine wp_iadd (pc' := 263) rfl rfl (by first | exact w32_id (by omega) (by omega) | rfl) ?_
        refine wp_ialoadO (pc' := 264) rfl rfl (by decide) rfl (by omega) ?_
        refine wp_aload_n (pc' := 265) rfl rfl rfl (by decide) ?_
        refine wp_iload_n (pc' := 266) rfl rfl rfl ?_
        refine wp_iconst (a := 3) (pc' := 267) rfl rfl rfl ?_
        refine wp_iadd (pc' := 268) rfl rfl (by first | exact w32_id (by omega) (by omega) | rfl) ?_
        refine wp_ialoadO (pc' := 269) rfl rfl (by decide) rfl (by omega) ?_
        refine wp_call (pc' := 272) rfl rfl rfl rfl rfl ⟨Nat.le_of_ble_eq_true rfl, Nat.le_of_ble_eq_true rfl, Nat.le_of_ble_eq_true rfl, Nat.le_of_ble_eq_true rfl, Nat.le_of_ble_eq_true rfl⟩ rfl (p_lay (d := 0) hI (hs _ (by omega))) ?_
        rintro v1 w1 ⟨a1, hv1, he1, hM⟩
        rw [hv1]
        clear hv1 v1
        have hlen1 : w1 (-2) (-1) = (L : Int) := by rw [he1]; exact hlen
        dsimp only [Option.toList, List.cons_append, List.nil_append, List.append_nil]
        refine wp_aload_n (pc' := 273) rfl rfl rfl (by decide) ?_
        refine wp_aload_n (pc' := 274) rfl rfl rfl (by decide) ?_
        refine wp_iload_n (pc' := 275) rfl rfl rfl ?_
        refine wp_iconst (a := 1) (pc' := 276) rfl rfl rfl ?_
        refine wp_iadd (pc' := 277) rfl rfl (by first | exact w32_id (by omega) (by omega) | rfl) ?_
        refine wp_ialoadO (pc' := 278) rfl rfl (by decide) rfl (by omega) ?_
        refine wp_aload_n (pc' := 279) rfl rfl rfl (by decide) ?_
        refine wp_iload_n (pc' := 280) rfl rfl rfl ?_
        refine wp_iconst (a := 2) (pc' := 281) rfl rfl rfl ?_
        refine wp_iadd (pc' := 282) rfl rfl (by first | exact w32_id (by omega) (by omega) | rfl) ?_
        refine wp_ialoadO (pc' := 283) rfl rfl (by decide) rfl (by omega) ?_
        refine wp_aload_n (pc' := 284) rfl rfl rfl (by decide) ?_
        refine wp_iload_n (pc' := 285) rfl rfl rfl ?_
        refine wp_iconst (a := 3) (pc' := 286) rfl rfl rfl ?_
        refine wp_iadd (pc' := 287) rfl rfl (by first | exact w32_id (by omega) (by omega) | rfl) ?_
        refine wp_ialoadO (pc' := 288) rfl rfl (by decide) rfl (by omega) ?_
        try rw [he1]
        refine wp_call (pc' := 291) rfl rfl rfl rfl rfl ⟨Nat.le_of_ble_eq_true rfl, Nat.le_of_ble_eq_true rfl, Nat.le_of_ble_eq_true rfl, Nat.le_of_ble_eq_true rfl, Nat.le_of_ble_eq_true rfl⟩ rfl (hM) ?_
        rintro v2 w2 ⟨hv2, he2, hI2⟩
        rw [hv2]
        clear hv2 v2
        dsimp only [Option.toList, List.cons_append, List.nil_append, List.append_nil]
        refine wp_icmp_eq (pc' := 294) (pt := 1352) rfl rfl rfl (fun q_5 => ?_) (fun q_5 => ?_)
        · skip
          refine wp_iinc (pc' := 1355) rfl rfl rfl (inc_id (by omega) (by omega)) rfl ?_
          dsimp only [lset, lset2, List.set, List.getElem?_cons_zero, List.getElem?_cons_succ]
          refine wp_goto (pc' := 18) rfl rfl ?_
          exact ih (i + 6) w2 (by omega) (by omega) hI2 (by rw [he2, he1]; exact hw)
        · skip
          refine wp_iconst (a := 0) (pc' := 295) rfl rfl rfl ?_
          refine wp_ret rfl rfl rfl ?_
          first | (exfalso; omega) | rfl
      refine wp_swE (2) (pt := 296) rfl (by decide) rfl rfl (fun q_6 => ?_) (fun q_6 => ?_)
      · skip
        refine wp_aload_n (pc' := 297) rfl rfl rfl (by decide) ?_
        refine wp_aload_n (pc' := 298) rfl rfl rfl (by decide) ?_
        refine wp_iload_n (pc' := 299) rfl rfl rfl ?_
        refine wp_iconst (a := 1) (pc' := 300) rfl rfl rfl ?_
        refine wp_iadd (pc' := 301) rfl rfl (by first | exact w32_id (by omega) (by omega) | rfl) ?_
        refine wp_ialoadO (pc' := 302) rfl rfl (by decide) rfl (by omega) ?_
        refine wp_aload_n (pc' := 303) rfl rfl rfl (by decide) ?_
        refine wp_iload_n (pc' := 304) rfl rfl rfl ?_
        refine wp_iconst (a := 2) (pc' := 305) rfl rfl rfl ?_
        refine wp_iadd (pc' := 306) rfl rfl (by first | exact w32_id (by omega) (by omega) | rfl) ?_
        refine wp_ialoadO (pc' := 307) rfl rfl (by decide) rfl (by omega) ?_
        refine wp_call (pc' := 310) rfl rfl rfl rfl rfl ⟨Nat.le_of_ble_eq_true rfl, Nat.le_of_ble_eq_true rfl, Nat.le_of_ble_eq_true rfl, Nat.le_of_ble_eq_true rfl, Nat.le_of_ble_eq_true rfl⟩ rfl (p_at (d := 0) hI) ?_
        rintro v1 w1 ⟨a1, hv1, he1, hM⟩
        rw [hv1]
        clear hv1 v1
        have hlen1 : w1 (-2) (-1) = (L : Int) := by rw [he1]; exact hlen
        dsimp only [Option.toList, List.cons_append, List.nil_append, List.append_nil]
        refine wp_aload_n (pc' := 311) rfl rfl rfl (by decide) ?_
        refine wp_aload_n (pc' := 312) rfl rfl rfl (by decide) ?_
        refine wp_iload_n (pc' := 313) rfl rfl rfl ?_
        refine wp_iconst (a := 1) (pc' := 314) rfl rfl rfl ?_
        refine wp_iadd (pc' := 315) rfl rfl (by first | exact w32_id (by omega) (by omega) | rfl) ?_
        refine wp_ialoadO (pc' := 316) rfl rfl (by decide) rfl (by omega) ?_
        refine wp_aload_n (pc' := 317) rfl rfl rfl (by decide) ?_
        refine wp_iload_n (pc' := 318) rfl rfl rfl ?_
        refine wp_iconst (a := 2) (pc' := 319) rfl rfl rfl ?_
        refine wp_iadd (pc' := 320) rfl rfl (by first | exact w32_id (by omega) (by omega) | rfl) ?_
        refine wp_ialoadO (pc' := 321) rfl rfl (by decide) rfl (by omega) ?_
        try rw [he1]
        refine wp_call (pc' := 324) rfl rfl rfl rfl rfl ⟨Nat.le_of_ble_eq_true rfl, Nat.le_of_ble_eq_true rfl, Nat.le_of_ble_eq_true rfl, Nat.le_of_ble_eq_true rfl, Nat.le_of_ble_eq_true rfl⟩ rfl (hM) ?_
        rintro v2 w2 ⟨hv2, he2, hI2⟩
        rw [hv2]
        clear hv2 v2
        dsimp only [Option.toList, List.cons_append, List.nil_append, List.append_nil]
        refine wp_icmp_eq (pc' := 327) (pt := 1352) rfl rfl rfl (fun q_7 => ?_) (fun q_7 => ?_)
        · skip
          refine wp_iinc (pc' := 1355) rfl rfl rfl (inc_id (by omega) (by omega)) rfl ?_
          dsimp only [lset, lset2, List.set, List.getElem?_cons_zero, List.getElem?_cons_succ]
          refine wp_goto (pc' := 18) rfl rfl ?_
          exact ih (i + 6) w2 (by omega) (by omega) hI2 (by rw [he2, he1]; exact hw)
        · skip
          refine wp_iconst (a := 0) (pc' := 328) rfl rfl rfl ?_
          refine wp_ret rfl rfl rfl ?_
          first | (exfalso; omega) | rfl
      refine wp_swE (3) (pt := 329) rfl (by decide) rfl rfl (fun q_8 => ?_) (fun q_8 => ?_)
      · skip
        refine wp_aload_n (pc' := 330) rfl rfl rfl (by decide) ?_
        refine wp_aload_n (pc' := 331) rfl rfl rfl (by decide) ?_
        refine wp_iload_n (pc' := 332) rfl rfl rfl ?_
        refine wp_iconst (a := 1) (pc' := 333) rfl rfl rfl ?_
        refine wp_iadd (pc' := 334) rfl rfl (by first | exact w32_id (by omega) (by omega) | rfl) ?_
        refine wp_ialoadO (pc' := 335) rfl rfl (by decide) rfl (by omega) ?_
        refine wp_call (pc' := 338) rfl rfl rfl rfl rfl ⟨Nat.le_of_ble_eq_true rfl, Nat.le_of_ble_eq_true rfl, Nat.le_of_ble_eq_true rfl, Nat.le_of_ble_eq_true rfl, Nat.le_of_ble_eq_true rfl⟩ rfl (p_tear (d := 0) hI) ?_
        rintro v1 w1 ⟨a1, hv1, he1, hM⟩
        rw [hv1]
        clear hv1 v1
        have hlen1 : w1 (-2) (-1) = (L : Int) := by rw [he1]; exact hlen
        dsimp only [Option.toList, List.cons_append, List.nil_append, List.append_nil]
        refine wp_aload_n (pc' := 339) rfl rfl rfl (by decide) ?_
        refine wp_aload_n (pc' := 340) rfl rfl rfl (by decide) ?_
        refine wp_iload_n (pc' := 341) rfl rfl rfl ?_
        refine wp_iconst (a := 1) (pc' := 342) rfl rfl rfl ?_
        refine wp_iadd (pc' := 343) rfl rfl (by first | exact w32_id (by omega) (by omega) | rfl) ?_
        refine wp_ialoadO (pc' := 344) rfl rfl (by decide) rfl (by omega) ?_
        try rw [he1]
        refine wp_call (pc' := 347) rfl rfl rfl rfl rfl ⟨Nat.le_of_ble_eq_true rfl, Nat.le_of_ble_eq_true rfl, Nat.le_of_ble_eq_true rfl, Nat.le_of_ble_eq_true rfl, Nat.le_of_ble_eq_true rfl⟩ rfl (hM) ?_
        rintro v2 w2 ⟨hv2, he2, hI2⟩
        rw [hv2]
        clear hv2 v2
        dsimp only [Option.toList, List.cons_append, List.nil_append, List.append_nil]
        refine wp_icmp_eq (pc' := 350) (pt := 1352) rfl rfl rfl (fun q_9 => ?_) (fun q_9 => ?_)
        · skip
          refine wp_iinc (pc' := 1355) rfl rfl rfl (inc_id (by omega) (by omega)) rfl ?_
          dsimp only [lset, lset2, List.set, List.getElem?_cons_zero, List.getElem?_cons_succ]
          refine wp_goto (pc' := 18) rfl rfl ?_
          exact ih (i + 6) w2 (by omega) (by omega) hI2 (by rw [he2, he1]; exact hw)
        · skip
          refine wp_iconst (a := 0) (pc' := 351) rfl rfl rfl ?_
          refine wp_ret rfl rfl rfl ?_
          first | (exfalso; omega) | rfl
      refine wp_swE (4) (pt := 352) rfl (by decide) rfl rfl (fun q_10 => ?_) (fun q_10 => ?_)
      · skip
        refine wp_aload_n (pc' := 353) rfl rfl rfl (by decide) ?_
        refine wp_aload_n (pc' := 354) rfl rfl rfl (by decide) ?_
        refine wp_iload_n (pc' := 355) rfl rfl rfl ?_
        refine wp_iconst (a := 1) (pc' := 356) rfl rfl rfl ?_
        refine wp_iadd (pc' := 357) rfl rfl (by first | exact w32_id (by omega) (by omega) | rfl) ?_
        refine wp_ialoadO (pc' := 358) rfl rfl (by decide) rfl (by omega) ?_
        refine wp_aload_n (pc' := 359) rfl rfl rfl (by decide) ?_
        refine wp_iload_n (pc' := 360) rfl rfl rfl ?_
        refine wp_iconst (a := 2) (pc' := 361) rfl rfl rfl ?_
        refine wp_iadd (pc' := 362) rfl rfl (by first | exact w32_id (by omega) (by omega) | rfl) ?_
        refine wp_ialoadO (pc' := 363) rfl rfl (by decide) rfl (by omega) ?_
        refine wp_aload_n (pc' := 364) rfl rfl rfl (by decide) ?_
        refine wp_iload_n (pc' := 365) rfl rfl rfl ?_
        refine wp_iconst (a := 3) (pc' := 366) rfl rfl rfl ?_
        refine wp_iadd (pc' := 367) rfl rfl (by first | exact w32_id (by omega) (by omega) | rfl) ?_
        refine wp_ialoadO (pc' := 368) rfl rfl (by decide) rfl (by omega) ?_
        refine wp_aload_n (pc' := 369) rfl rfl rfl (by decide) ?_
        refine wp_iload_n (pc' := 370) rfl rfl rfl ?_
        refine wp_iconst (a := 4) (pc' := 371) rfl rfl rfl ?_
        refine wp_iadd (pc' := 372) rfl rfl (by first | exact w32_id (by omega) (by omega) | rfl) ?_
        refine wp_ialoadO (pc' := 373) rfl rfl (by decide) rfl (by omega) ?_
        refine wp_aload_n (pc' := 374) rfl rfl rfl (by decide) ?_
        refine wp_iload_n (pc' := 375) rfl rfl rfl ?_
        refine wp_iconst (a := 5) (pc' := 376) rfl rfl rfl ?_
        refine wp_iadd (pc' := 377) rfl rfl (by first | exact w32_id (by omega) (by omega) | rfl) ?_
        refine wp_ialoadO (pc' := 378) rfl rfl (by decide) rfl (by omega) ?_
        refine wp_call (pc' := 381) rfl rfl rfl rfl rfl ⟨Nat.le_of_ble_eq_true rfl, Nat.le_of_ble_eq_true rfl, Nat.le_of_ble_eq_true rfl, Nat.le_of_ble_eq_true rfl, Nat.le_of_ble_eq_true rfl⟩ rfl (p_copy (d := 0) hI (hs _ (by omega)) (hs _ (by omega)) (hs _ (by omega))) ?_
        rintro v1 w1 ⟨a1, hv1, he1, hM⟩
        rw [hv1]
        clear hv1 v1
        have hlen1 : w1 (-2) (-1) = (L : Int) := by rw [he1]; exact hlen
        dsimp only [Option.toList, List.cons_append, List.nil_append, List.append_nil]
        refine wp_aload_n (pc' := 382) rfl rfl rfl (by decide) ?_
        refine wp_aload_n (pc' := 383) rfl rfl rfl (by decide) ?_
        refine wp_iload_n (pc' := 384) rfl rfl rfl ?_
        refine wp_iconst (a := 1) (pc' := 385) rfl rfl rfl ?_
        refine wp_iadd (pc' := 386) rfl rfl (by first | exact w32_id (by omega) (by omega) | rfl) ?_
        refine wp_ialoadO (pc' := 387) rfl rfl (by decide) rfl (by omega) ?_
        refine wp_aload_n (pc' := 388) rfl rfl rfl (by decide) ?_
        refine wp_iload_n (pc' := 389) rfl rfl rfl ?_
        refine wp_iconst (a := 2) (pc' := 390) rfl rfl rfl ?_
        refine wp_iadd (pc' := 391) rfl rfl (by first | exact w32_id (by omega) (by omega) | rfl) ?_
        refine wp_ialoadO (pc' := 392) rfl rfl (by decide) rfl (by omega) ?_
        refine wp_aload_n (pc' := 393) rfl rfl rfl (by decide) ?_
        refine wp_iload_n (pc' := 394) rfl rfl rfl ?_
        refine wp_iconst (a := 3) (pc' := 395) rfl rfl rfl ?_
        refine wp_iadd (pc' := 396) rfl rfl (by first | exact w32_id (by omega) (by omega) | rfl) ?_
        refine wp_ialoadO (pc' := 397) rfl rfl (by decide) rfl (by omega) ?_
        refine wp_aload_n (pc' := 398) rfl rfl rfl (by decide) ?_
        refine wp_iload_n (pc' := 399) rfl rfl rfl ?_
        refine wp_iconst (a := 4) (pc' := 400) rfl rfl rfl ?_
        refine wp_iadd (pc' := 401) rfl rfl (by first | exact w32_id (by omega) (by omega) | rfl) ?_
        refine wp_ialoadO (pc' := 402) rfl rfl (by decide) rfl (by omega) ?_
        refine wp_aload_n (pc' := 403) rfl rfl rfl (by decide) ?_
        refine wp_iload_n (pc' := 404) rfl rfl rfl ?_
        refine wp_iconst (a := 5) (pc' := 405) rfl rfl rfl ?_
        refine wp_iadd (pc' := 406) rfl rfl (by first | exact w32_id (by omega) (by omega) | rfl) ?_
        refine wp_ialoadO (pc' := 407) rfl rfl (by decide) rfl (by omega) ?_
        try rw [he1]
        refine wp_call (pc' := 410) rfl rfl rfl rfl rfl ⟨Nat.le_of_ble_eq_true rfl, Nat.le_of_ble_eq_true rfl, Nat.le_of_ble_eq_true rfl, Nat.le_of_ble_eq_true rfl, Nat.le_of_ble_eq_true rfl⟩ rfl (hM) ?_
        rintro v2 w2 ⟨hv2, he2, hI2⟩
        rw [hv2]
        clear hv2 v2
        dsimp only [Option.toList, List.cons_append, List.nil_append, List.append_nil]
        refine wp_icmp_eq (pc' := 413) (pt := 1352) rfl rfl rfl (fun q_11 => ?_) (fun q_11 => ?_)
        · skip
          refine wp_iinc (pc' := 1355) rfl rfl rfl (inc_id (by omega) (by omega)) rfl ?_
          dsimp only [lset, lset2, List.set, List.getElem?_cons_zero, List.getElem?_cons_succ]
          refine wp_goto (pc' := 18) rfl rfl ?_
          exact ih (i + 6) w2 (by omega) (by omega) hI2 (by rw [he2, he1]; exact hw)
        · skip
          refine wp_iconst (a := 0) (pc' := 414) rfl rfl rfl ?_
          refine wp_ret rfl rfl rfl ?_
          first | (exfalso; omega) | rfl
      refine wp_swE (5) (pt := 415) rfl (by decide) rfl rfl (fun q_12 => ?_) (fun q_12 => ?_)
      · skip
        refine wp_aload_n (pc' := 416) rfl rfl rfl (by decide) ?_
        refine wp_aload_n (pc' := 417) rfl rfl rfl (by decide) ?_
        refine wp_iload_n (pc' := 418) rfl rfl rfl ?_
        refine wp_iconst (a := 1) (pc' := 419) rfl rfl rfl ?_
        refine wp_iadd (pc' := 420) rfl rfl (by first | exact w32_id (by omega) (by omega) | rfl) ?_
        refine wp_ialoadO (pc' := 421) rfl rfl (by decide) rfl (by omega) ?_
        refine wp_call (pc' := 424) rfl rfl rfl rfl rfl ⟨Nat.le_of_ble_eq_true rfl, Nat.le_of_ble_eq_true rfl, Nat.le_of_ble_eq_true rfl, Nat.le_of_ble_eq_true rfl, Nat.le_of_ble_eq_true rfl⟩ rfl (p_mean (d := 0) hI) ?_
        rintro v1 w1 ⟨a1, hv1, he1, hM⟩
        rw [hv1]
        clear hv1 v1
        have hlen1 : w1 (-2) (-1) = (L : Int) := by rw [he1]; exact hlen
        dsimp only [Option.toList, List.cons_append, List.nil_append, List.append_nil]
        refine wp_aload_n (pc' := 425) rfl rfl rfl (by decide) ?_
        refine wp_aload_n (pc' := 426) rfl rfl rfl (by decide) ?_
        refine wp_iload_n (pc' := 427) rfl rfl rfl ?_
        refine wp_iconst (a := 1) (pc' := 428) rfl rfl rfl ?_
        refine wp_iadd (pc' := 429) rfl rfl (by first | exact w32_id (by omega) (by omega) | rfl) ?_
        refine wp_ialoadO (pc' := 430) rfl rfl (by decide) rfl (by omega) ?_
        try rw [he1]
        refine wp_call (pc' := 433) rfl rfl rfl rfl rfl ⟨Nat.le_of_ble_eq_true rfl, Nat.le_of_ble_eq_true rfl, Nat.le_of_ble_eq_true rfl, Nat.le_of_ble_eq_true rfl, Nat.le_of_ble_eq_true rfl⟩ rfl (hM) ?_
        rintro v2 w2 ⟨hv2, he2, hI2⟩
        rw [hv2]
        clear hv2 v2
        dsimp only [Option.toList, List.cons_append, List.nil_append, List.append_nil]
        refine wp_icmp_eq (pc' := 436) (pt := 1352) rfl rfl rfl (fun q_13 => ?_) (fun q_13 => ?_)
        · skip
          refine wp_iinc (pc' := 1355) rfl rfl rfl (inc_id (by omega) (by omega)) rfl ?_
          dsimp only [lset, lset2, List.set, List.getElem?_cons_zero, List.getElem?_cons_succ]
          refine wp_goto (pc' := 18) rfl rfl ?_
          exact ih (i + 6) w2 (by omega) (by omega) hI2 (by rw [he2, he1]; exact hw)
        · skip
          refine wp_iconst (a := 0) (pc' := 437) rfl rfl rfl ?_
          refine wp_ret rfl rfl rfl ?_
          first | (exfalso; omega) | rfl
      refine wp_swE (6) (pt := 438) rfl (by decide) rfl rfl (fun q_14 => ?_) (fun q_14 => ?_)
      · skip
        refine wp_aload_n (pc' := 439) rfl rfl rfl (by decide) ?_
        refine wp_aload_n (pc' := 440) rfl rfl rfl (by decide) ?_
        refine wp_iload_n (pc' := 441) rfl rfl rfl ?_
        refine wp_iconst (a := 1) (pc' := 442) rfl rfl rfl ?_
        refine wp_iadd (pc' := 443) rfl rfl (by first | exact w32_id (by omega) (by omega) | rfl) ?_
        refine wp_ialoadO (pc' := 444) rfl rfl (by decide) rfl (by omega) ?_
        refine wp_aload_n (pc' := 445) rfl rfl rfl (by decide) ?_
        refine wp_iload_n (pc' := 446) rfl rfl rfl ?_
        refine wp_iconst (a := 2) (pc' := 447) rfl rfl rfl ?_
        refine wp_iadd (pc' := 448) rfl rfl (by first | exact w32_id (by omega) (by omega) | rfl) ?_
        refine wp_ialoadO (pc' := 449) rfl rfl (by decide) rfl (by omega) ?_
        refine wp_call (pc' := 452) rfl rfl rfl rfl rfl ⟨Nat.le_of_ble_eq_true rfl, Nat.le_of_ble_eq_true rfl, Nat.le_of_ble_eq_true rfl, Nat.le_of_ble_eq_true rfl, Nat.le_of_ble_eq_true rfl⟩ rfl (p_text (d := 0) hI) ?_
        rintro v1 w1 ⟨a1, hv1, he1, hM⟩
        rw [hv1]
        clear hv1 v1
        have hlen1 : w1 (-2) (-1) = (L : Int) := by rw [he1]; exact hlen
        dsimp only [Option.toList, List.cons_append, List.nil_append, List.append_nil]
        refine wp_aload_n (pc' := 453) rfl rfl rfl (by decide) ?_
        refine wp_aload_n (pc' := 454) rfl rfl rfl (by decide) ?_
        refine wp_iload_n (pc' := 455) rfl rfl rfl ?_
        refine wp_iconst (a := 1) (pc' := 456) rfl rfl rfl ?_
        refine wp_iadd (pc' := 457) rfl rfl (by first | exact w32_id (by omega) (by omega) | rfl) ?_
        refine wp_ialoadO (pc' := 458) rfl rfl (by decide) rfl (by omega) ?_
        refine wp_aload_n (pc' := 459) rfl rfl rfl (by decide) ?_
        refine wp_iload_n (pc' := 460) rfl rfl rfl ?_
        refine wp_iconst (a := 2) (pc' := 461) rfl rfl rfl ?_
        refine wp_iadd (pc' := 462) rfl rfl (by first | exact w32_id (by omega) (by omega) | rfl) ?_
        refine wp_ialoadO (pc' := 463) rfl rfl (by decide) rfl (by omega) ?_
        try rw [he1]
        refine wp_call (pc' := 466) rfl rfl rfl rfl rfl ⟨Nat.le_of_ble_eq_true rfl, Nat.le_of_ble_eq_true rfl, Nat.le_of_ble_eq_true rfl, Nat.le_of_ble_eq_true rfl, Nat.le_of_ble_eq_true rfl⟩ rfl (hM) ?_
        rintro v2 w2 ⟨hv2, he2, hI2⟩
        rw [hv2]
        clear hv2 v2
        dsimp only [Option.toList, List.cons_append, List.nil_append, List.append_nil]
        refine wp_icmp_eq (pc' := 469) (pt := 1352) rfl rfl rfl (fun q_15 => ?_) (fun q_15 => ?_)
        · skip
          refine wp_iinc (pc' := 1355) rfl rfl rfl (inc_id (by omega) (by omega)) rfl ?_
          dsimp only [lset, lset2, List.set, List.getElem?_cons_zero, List.getElem?_cons_succ]
          refine wp_goto (pc' := 18) rfl rfl ?_
          exact ih (i + 6) w2 (by omega) (by omega) hI2 (by rw [he2, he1]; exact hw)
        · skip
          refine wp_iconst (a := 0) (pc' := 470) rfl rfl rfl ?_
          refine wp_ret rfl rfl rfl ?_
          first | (exfalso; omega) | rfl
      refine wp_swE (7) (pt := 471) rfl (by decide) rfl rfl (fun q_16 => ?_) (fun q_16 => ?_)
      · skip
        refine wp_aload_n (pc' := 472) rfl rfl rfl (by decide) ?_
        refine wp_aload_n (pc' := 473) rfl rfl rfl (by decide) ?_
        refine wp_iload_n (pc' := 474) rfl rfl rfl ?_
        refine wp_iconst (a := 1) (pc' := 475) rfl rfl rfl ?_
        refine wp_iadd (pc' := 476) rfl rfl (by first | exact w32_id (by omega) (by omega) | rfl) ?_
        refine wp_ialoadO (pc' := 477) rfl rfl (by decide) rfl (by omega) ?_
        refine wp_aload_n (pc' := 478) rfl rfl rfl (by decide) ?_
        refine wp_iload_n (pc' := 479) rfl rfl rfl ?_
        refine wp_iconst (a := 2) (pc' := 480) rfl rfl rfl ?_
        refine wp_iadd (pc' := 481) rfl rfl (by first | exact w32_id (by omega) (by omega) | rfl) ?_
        refine wp_ialoadO (pc' := 482) rfl rfl (by decide) rfl (by omega) ?_
        refine wp_aload_n (pc' := 483) rfl rfl rfl (by decide) ?_
        refine wp_iload_n (pc' := 484) rfl rfl rfl ?_
        refine wp_iconst (a := 3) (pc' := 485) rfl rfl rfl ?_
        refine wp_iadd (pc' := 486) rfl rfl (by first | exact w32_id (by omega) (by omega) | rfl) ?_
        refine wp_ialoadO (pc' := 487) rfl rfl (by decide) rfl (by omega) ?_
        refine wp_call (pc' := 490) rfl rfl rfl rfl rfl ⟨Nat.le_of_ble_eq_true rfl, Nat.le_of_ble_eq_true rfl, Nat.le_of_ble_eq_true rfl, Nat.le_of_ble_eq_true rfl, Nat.le_of_ble_eq_true rfl⟩ rfl (p_put (d := 0) hI) ?_
        rintro v1 w1 ⟨a1, hv1, he1, hM⟩
        rw [hv1]
        clear hv1 v1
        have hlen1 : w1 (-2) (-1) = (L : Int) := by rw [he1]; exact hlen
        dsimp only [Option.toList, List.cons_append, List.nil_append, List.append_nil]
        refine wp_aload_n (pc' := 491) rfl rfl rfl (by decide) ?_
        refine wp_aload_n (pc' := 492) rfl rfl rfl (by decide) ?_
        refine wp_iload_n (pc' := 493) rfl rfl rfl ?_
        refine wp_iconst (a := 1) (pc' := 494) rfl rfl rfl ?_
        refine wp_iadd (pc' := 495) rfl rfl (by first | exact w32_id (by omega) (by omega) | rfl) ?_
        refine wp_ialoadO (pc' := 496) rfl rfl (by decide) rfl (by omega) ?_
        refine wp_aload_n (pc' := 497) rfl rfl rfl (by decide) ?_
        refine wp_iload_n (pc' := 498) rfl rfl rfl ?_
        refine wp_iconst (a := 2) (pc' := 499) rfl rfl rfl ?_
        refine wp_iadd (pc' := 500) rfl rfl (by first | exact w32_id (by omega) (by omega) | rfl) ?_
        refine wp_ialoadO (pc' := 501) rfl rfl (by decide) rfl (by omega) ?_
        refine wp_aload_n (pc' := 502) rfl rfl rfl (by decide) ?_
        refine wp_iload_n (pc' := 503) rfl rfl rfl ?_
        refine wp_iconst (a := 3) (pc' := 504) rfl rfl rfl ?_
        refine wp_iadd (pc' := 505) rfl rfl (by first | exact w32_id (by omega) (by omega) | rfl) ?_
        refine wp_ialoadO (pc' := 506) rfl rfl (by decide) rfl (by omega) ?_
        try rw [he1]
        refine wp_call (pc' := 509) rfl rfl rfl rfl rfl ⟨Nat.le_of_ble_eq_true rfl, Nat.le_of_ble_eq_true rfl, Nat.le_of_ble_eq_true rfl, Nat.le_of_ble_eq_true rfl, Nat.le_of_ble_eq_true rfl⟩ rfl (hM) ?_
        rintro v2 w2 ⟨hv2, he2, hI2⟩
        rw [hv2]
        clear hv2 v2
        dsimp only [Option.toList, List.cons_append, List.nil_append, List.append_nil]
        refine wp_icmp_eq (pc' := 512) (pt := 1352) rfl rfl rfl (fun q_17 => ?_) (fun q_17 => ?_)
        · skip
          refine wp_iinc (pc' := 1355) rfl rfl rfl (inc_id (by omega) (by omega)) rfl ?_
          dsimp only [lset, lset2, List.set, List.getElem?_cons_zero, List.getElem?_cons_succ]
          refine wp_goto (pc' := 18) rfl rfl ?_
          exact ih (i + 6) w2 (by omega) (by omega) hI2 (by rw [he2, he1]; exact hw)
        · skip
          refine wp_iconst (a := 0) (pc' := 513) rfl rfl rfl ?_
          refine wp_ret rfl rfl rfl ?_
          first | (exfalso; omega) | rfl
      refine wp_swE (8) (pt := 514) rfl (by decide) rfl rfl (fun q_18 => ?_) (fun q_18 => ?_)
      · skip
        refine wp_aload_n (pc' := 515) rfl rfl rfl (by decide) ?_
        refine wp_aload_n (pc' := 516) rfl rfl rfl (by decide) ?_
        refine wp_iload_n (pc' := 517) rfl rfl rfl ?_
        refine wp_iconst (a := 1) (pc' := 518) rfl rfl rfl ?_
        refine wp_iadd (pc' := 519) rfl rfl (by first | exact w32_id (by omega) (by omega) | rfl) ?_
        refine wp_ialoadO (pc' := 520) rfl rfl (by decide) rfl (by omega) ?_
        refine wp_call (pc' := 523) rfl rfl rfl rfl rfl ⟨Nat.le_of_ble_eq_true rfl, Nat.le_of_ble_eq_true rfl, Nat.le_of_ble_eq_true rfl, Nat.le_of_ble_eq_true rfl, Nat.le_of_ble_eq_true rfl⟩ rfl (p_fault (d := 0) hI) ?_
        rintro v1 w1 ⟨a1, hv1, he1, hM⟩
        rw [hv1]
        clear hv1 v1
        have hlen1 : w1 (-2) (-1) = (L : Int) := by rw [he1]; exact hlen
        dsimp only [Option.toList, List.cons_append, List.nil_append, List.append_nil]
        refine wp_aload_n (pc' := 524) rfl rfl rfl (by decide) ?_
        refine wp_aload_n (pc' := 525) rfl rfl rfl (by decide) ?_
        refine wp_iload_n (pc' := 526) rfl rfl rfl ?_
        refine wp_iconst (a := 1) (pc' := 527) rfl rfl rfl ?_
        refine wp_iadd (pc' := 528) rfl rfl (by first | exact w32_id (by omega) (by omega) | rfl) ?_
        refine wp_ialoadO (pc' := 529) rfl rfl (by decide) rfl (by omega) ?_
        try rw [he1]
        refine wp_call (pc' := 532) rfl rfl rfl rfl rfl ⟨Nat.le_of_ble_eq_true rfl, Nat.le_of_ble_eq_true rfl, Nat.le_of_ble_eq_true rfl, Nat.le_of_ble_eq_true rfl, Nat.le_of_ble_eq_true rfl⟩ rfl (hM) ?_
        rintro v2 w2 ⟨hv2, he2, hI2⟩
        rw [hv2]
        clear hv2 v2
        dsimp only [Option.toList, List.cons_append, List.nil_append, List.append_nil]
        refine wp_icmp_eq (pc' := 535) (pt := 1352) rfl rfl rfl (fun q_19 => ?_) (fun q_19 => ?_)
        · skip
          refine wp_iinc (pc' := 1355) rfl rfl rfl (inc_id (by omega) (by omega)) rfl ?_
          dsimp only [lset, lset2, List.set, List.getElem?_cons_zero, List.getElem?_cons_succ]
          refine wp_goto (pc' := 18) rfl rfl ?_
          exact ih (i + 6) w2 (by omega) (by omega) hI2 (by rw [he2, he1]; exact hw)
        · skip
          refine wp_iconst (a := 0) (pc' := 536) rfl rfl rfl ?_
          refine wp_ret rfl rfl rfl ?_
          first | (exfalso; omega) | rfl
      refine wp_swE (9) (pt := 537) rfl (by decide) rfl rfl (fun q_20 => ?_) (fun q_20 => ?_)
      · skip
        refine wp_aload_n (pc' := 538) rfl rfl rfl (by decide) ?_
        refine wp_aload_n (pc' := 539) rfl rfl rfl (by decide) ?_
        refine wp_iload_n (pc' := 540) rfl rfl rfl ?_
        refine wp_iconst (a := 1) (pc' := 541) rfl rfl rfl ?_
        refine wp_iadd (pc' := 542) rfl rfl (by first | exact w32_id (by omega) (by omega) | rfl) ?_
        refine wp_ialoadO (pc' := 543) rfl rfl (by decide) rfl (by omega) ?_
        refine wp_call (pc' := 546) rfl rfl rfl rfl rfl ⟨Nat.le_of_ble_eq_true rfl, Nat.le_of_ble_eq_true rfl, Nat.le_of_ble_eq_true rfl, Nat.le_of_ble_eq_true rfl, Nat.le_of_ble_eq_true rfl⟩ rfl (p_land (d := 0) hI) ?_
        rintro v1 w1 ⟨a1, hv1, he1, hM⟩
        rw [hv1]
        clear hv1 v1
        have hlen1 : w1 (-2) (-1) = (L : Int) := by rw [he1]; exact hlen
        dsimp only [Option.toList, List.cons_append, List.nil_append, List.append_nil]
        refine wp_aload_n (pc' := 547) rfl rfl rfl (by decide) ?_
        refine wp_aload_n (pc' := 548) rfl rfl rfl (by decide) ?_
        refine wp_iload_n (pc' := 549) rfl rfl rfl ?_
        refine wp_iconst (a := 1) (pc' := 550) rfl rfl rfl ?_
        refine wp_iadd (pc' := 551) rfl rfl (by first | exact w32_id (by omega) (by omega) | rfl) ?_
        refine wp_ialoadO (pc' := 552) rfl rfl (by decide) rfl (by omega) ?_
        try rw [he1]
        refine wp_call (pc' := 555) rfl rfl rfl rfl rfl ⟨Nat.le_of_ble_eq_true rfl, Nat.le_of_ble_eq_true rfl, Nat.le_of_ble_eq_true rfl, Nat.le_of_ble_eq_true rfl, Nat.le_of_ble_eq_true rfl⟩ rfl (hM) ?_
        rintro v2 w2 ⟨hv2, he2, hI2⟩
        rw [hv2]
        clear hv2 v2
        dsimp only [Option.toList, List.cons_append, List.nil_append, List.append_nil]
        refine wp_icmp_eq (pc' := 558) (pt := 1352) rfl rfl rfl (fun q_21 => ?_) (fun q_21 => ?_)
        · skip
          refine wp_iinc (pc' := 1355) rfl rfl rfl (inc_id (by omega) (by omega)) rfl ?_
          dsimp only [lset, lset2, List.set, List.getElem?_cons_zero, List.getElem?_cons_succ]
          refine wp_goto (pc' := 18) rfl rfl ?_
          exact ih (i + 6) w2 (by omega) (by omega) hI2 (by rw [he2, he1]; exact hw)
        · skip
          refine wp_iconst (a := 0) (pc' := 559) rfl rfl rfl ?_
          refine wp_ret rfl rfl rfl ?_
          first | (exfalso; omega) | rfl
      refine wp_swE (10) (pt := 560) rfl (by decide) rfl rfl (fun q_22 => ?_) (fun q_22 => ?_)
      · skip
        refine wp_aload_n (pc' := 561) rfl rfl rfl (by decide) ?_
        refine wp_aload_n (pc' := 562) rfl rfl rfl (by decide) ?_
        refine wp_iload_n (pc' := 563) rfl rfl rfl ?_
        refine wp_iconst (a := 1) (pc' := 564) rfl rfl rfl ?_
        refine wp_iadd (pc' := 565) rfl rfl (by first | exact w32_id (by omega) (by omega) | rfl) ?_
        refine wp_ialoadO (pc' := 566) rfl rfl (by decide) rfl (by omega) ?_
        refine wp_aload_n (pc' := 567) rfl rfl rfl (by decide) ?_
        refine wp_iload_n (pc' := 568) rfl rfl rfl ?_
        refine wp_iconst (a := 2) (pc' := 569) rfl rfl rfl ?_
        refine wp_iadd (pc' := 570) rfl rfl (by first | exact w32_id (by omega) (by omega) | rfl) ?_
        refine wp_ialoadO (pc' := 571) rfl rfl (by decide) rfl (by omega) ?_
        refine wp_call (pc' := 574) rfl rfl rfl rfl rfl ⟨Nat.le_of_ble_eq_true rfl, Nat.le_of_ble_eq_true rfl, Nat.le_of_ble_eq_true rfl, Nat.le_of_ble_eq_true rfl, Nat.le_of_ble_eq_true rfl⟩ rfl (p_one (d := 0) hI) ?_
        rintro v1 w1 ⟨a1, hv1, he1, hM⟩
        rw [hv1]
        clear hv1 v1
        have hlen1 : w1 (-2) (-1) = (L : Int) := by rw [he1]; exact hlen
        dsimp only [Option.toList, List.cons_append, List.nil_append, List.append_nil]
        refine wp_aload_n (pc' := 575) rfl rfl rfl (by decide) ?_
        refine wp_aload_n (pc' := 576) rfl rfl rfl (by decide) ?_
        refine wp_iload_n (pc' := 577) rfl rfl rfl ?_
        refine wp_iconst (a := 1) (pc' := 578) rfl rfl rfl ?_
        refine wp_iadd (pc' := 579) rfl rfl (by first | exact w32_id (by omega) (by omega) | rfl) ?_
        refine wp_ialoadO (pc' := 580) rfl rfl (by decide) rfl (by omega) ?_
        refine wp_aload_n (pc' := 581) rfl rfl rfl (by decide) ?_
        refine wp_iload_n (pc' := 582) rfl rfl rfl ?_
        refine wp_iconst (a := 2) (pc' := 583) rfl rfl rfl ?_
        refine wp_iadd (pc' := 584) rfl rfl (by first | exact w32_id (by omega) (by omega) | rfl) ?_
        refine wp_ialoadO (pc' := 585) rfl rfl (by decide) rfl (by omega) ?_
        try rw [he1]
        refine wp_call (pc' := 588) rfl rfl rfl rfl rfl ⟨Nat.le_of_ble_eq_true rfl, Nat.le_of_ble_eq_true rfl, Nat.le_of_ble_eq_true rfl, Nat.le_of_ble_eq_true rfl, Nat.le_of_ble_eq_true rfl⟩ rfl (hM) ?_
        rintro v2 w2 ⟨hv2, he2, hI2⟩
        rw [hv2]
        clear hv2 v2
        dsimp only [Option.toList, List.cons_append, List.nil_append, List.append_nil]
        refine wp_icmp_eq (pc' := 591) (pt := 1352) rfl rfl rfl (fun q_23 => ?_) (fun q_23 => ?_)
        · skip
          refine wp_iinc (pc' := 1355) rfl rfl rfl (inc_id (by omega) (by omega)) rfl ?_
          dsimp only [lset, lset2, List.set, List.getElem?_cons_zero, List.getElem?_cons_succ]
          refine wp_goto (pc' := 18) rfl rfl ?_
          exact ih (i + 6) w2 (by omega) (by omega) hI2 (by rw [he2, he1]; exact hw)
        · skip
          refine wp_iconst (a := 0) (pc' := 592) rfl rfl rfl ?_
          refine wp_ret rfl rfl rfl ?_
          first | (exfalso; omega) | rfl
      refine wp_swE (11) (pt := 593) rfl (by decide) rfl rfl (fun q_24 => ?_) (fun q_24 => ?_)
      · skip
        refine wp_aload_n (pc' := 594) rfl rfl rfl (by decide) ?_
        refine wp_aload_n (pc' := 595) rfl rfl rfl (by decide) ?_
        refine wp_iload_n (pc' := 596) rfl rfl rfl ?_
        refine wp_iconst (a := 1) (pc' := 597) rfl rfl rfl ?_
        refine wp_iadd (pc' := 598) rfl rfl (by first | exact w32_id (by omega) (by omega) | rfl) ?_
        refine wp_ialoadO (pc' := 599) rfl rfl (by decide) rfl (by omega) ?_
        refine wp_aload_n (pc' := 600) rfl rfl rfl (by decide) ?_
        refine wp_iload_n (pc' := 601) rfl rfl rfl ?_
        refine wp_iconst (a := 2) (pc' := 602) rfl rfl rfl ?_
        refine wp_iadd (pc' := 603) rfl rfl (by first | exact w32_id (by omega) (by omega) | rfl) ?_
        refine wp_ialoadO (pc' := 604) rfl rfl (by decide) rfl (by omega) ?_
        refine wp_call (pc' := 607) rfl rfl rfl rfl rfl ⟨Nat.le_of_ble_eq_true rfl, Nat.le_of_ble_eq_true rfl, Nat.le_of_ble_eq_true rfl, Nat.le_of_ble_eq_true rfl, Nat.le_of_ble_eq_true rfl⟩ rfl (p_mark (d := 0) hI) ?_
        rintro v1 w1 ⟨a1, hv1, he1, hM⟩
        rw [hv1]
        clear hv1 v1
        have hlen1 : w1 (-2) (-1) = (L : Int) := by rw [he1]; exact hlen
        dsimp only [Option.toList, List.cons_append, List.nil_append, List.append_nil]
        refine wp_aload_n (pc' := 608) rfl rfl rfl (by decide) ?_
        refine wp_aload_n (pc' := 609) rfl rfl rfl (by decide) ?_
        refine wp_iload_n (pc' := 610) rfl rfl rfl ?_
        refine wp_iconst (a := 1) (pc' := 611) rfl rfl rfl ?_
        refine wp_iadd (pc' := 612) rfl rfl (by first | exact w32_id (by omega) (by omega) | rfl) ?_
        refine wp_ialoadO (pc' := 613) rfl rfl (by decide) rfl (by omega) ?_
        refine wp_aload_n (pc' := 614) rfl rfl rfl (by decide) ?_
        refine wp_iload_n (pc' := 615) rfl rfl rfl ?_
        refine wp_iconst (a := 2) (pc' := 616) rfl rfl rfl ?_
        refine wp_iadd (pc' := 617) rfl rfl (by first | exact w32_id (by omega) (by omega) | rfl) ?_
        refine wp_ialoadO (pc' := 618) rfl rfl (by decide) rfl (by omega) ?_
        try rw [he1]
        refine wp_call (pc' := 621) rfl rfl rfl rfl rfl ⟨Nat.le_of_ble_eq_true rfl, Nat.le_of_ble_eq_true rfl, Nat.le_of_ble_eq_true rfl, Nat.le_of_ble_eq_true rfl, Nat.le_of_ble_eq_true rfl⟩ rfl (hM) ?_
        rintro v2 w2 ⟨hv2, he2, hI2⟩
        rw [hv2]
        clear hv2 v2
        dsimp only [Option.toList, List.cons_append, List.nil_append, List.append_nil]
        refine wp_icmp_eq (pc' := 624) (pt := 1352) rfl rfl rfl (fun q_25 => ?_) (fun q_25 => ?_)
        · skip
          refine wp_iinc (pc' := 1355) rfl rfl rfl (inc_id (by omega) (by omega)) rfl ?_
          dsimp only [lset, lset2, List.set, List.getElem?_cons_zero, List.getElem?_cons_succ]
          refine wp_goto (pc' := 18) rfl rfl ?_
          exact ih (i + 6) w2 (by omega) (by omega) hI2 (by rw [he2, he1]; exact hw)
        · skip
          refine wp_iconst (a := 0) (pc' := 625) rfl rfl rfl ?_
          refine wp_ret rfl rfl rfl ?_
          first | (exfalso; omega) | rfl
      refine wp_swE (12) (pt := 626) rfl (by decide) rfl rfl (fun q_26 => ?_) (fun q_26 => ?_)
      · skip
        refine wp_aload_n (pc' := 627) rfl rfl rfl (by decide) ?_
        refine wp_aload_n (pc' := 628) rfl rfl rfl (by decide) ?_
        refine wp_iload_n (pc' := 629) rfl rfl rfl ?_
        refine wp_iconst (a := 1) (pc' := 630) rfl rfl rfl ?_
        refine wp_iadd (pc' := 631) rfl rfl (by first | exact w32_id (by omega) (by omega) | rfl) ?_
        refine wp_ialoadO (pc' := 632) rfl rfl (by decide) rfl (by omega) ?_
        refine wp_aload_n (pc' := 633) rfl rfl rfl (by decide) ?_
        refine wp_iload_n (pc' := 634) rfl rfl rfl ?_
        refine wp_iconst (a := 2) (pc' := 635) rfl rfl rfl ?_
        refine wp_iadd (pc' := 636) rfl rfl (by first | exact w32_id (by omega) (by omega) | rfl) ?_
        refine wp_ialoadO (pc' := 637) rfl rfl (by decide) rfl (by omega) ?_
        refine wp_call (pc' := 640) rfl rfl rfl rfl rfl ⟨Nat.le_of_ble_eq_true rfl, Nat.le_of_ble_eq_true rfl, Nat.le_of_ble_eq_true rfl, Nat.le_of_ble_eq_true rfl, Nat.le_of_ble_eq_true rfl⟩ rfl (p_gain (d := 0) hI) ?_
        rintro v1 w1 ⟨a1, hv1, he1, hM⟩
        rw [hv1]
        clear hv1 v1
        have hlen1 : w1 (-2) (-1) = (L : Int) := by rw [he1]; exact hlen
        dsimp only [Option.toList, List.cons_append, List.nil_append, List.append_nil]
        refine wp_aload_n (pc' := 641) rfl rfl rfl (by decide) ?_
        refine wp_aload_n (pc' := 642) rfl rfl rfl (by decide) ?_
        refine wp_iload_n (pc' := 643) rfl rfl rfl ?_
        refine wp_iconst (a := 1) (pc' := 644) rfl rfl rfl ?_
        refine wp_iadd (pc' := 645) rfl rfl (by first | exact w32_id (by omega) (by omega) | rfl) ?_
        refine wp_ialoadO (pc' := 646) rfl rfl (by decide) rfl (by omega) ?_
        refine wp_aload_n (pc' := 647) rfl rfl rfl (by decide) ?_
        refine wp_iload_n (pc' := 648) rfl rfl rfl ?_
        refine wp_iconst (a := 2) (pc' := 649) rfl rfl rfl ?_
        refine wp_iadd (pc' := 650) rfl rfl (by first | exact w32_id (by omega) (by omega) | rfl) ?_
        refine wp_ialoadO (pc' := 651) rfl rfl (by decide) rfl (by omega) ?_
        try rw [he1]
        refine wp_call (pc' := 654) rfl rfl rfl rfl rfl ⟨Nat.le_of_ble_eq_true rfl, Nat.le_of_ble_eq_true rfl, Nat.le_of_ble_eq_true rfl, Nat.le_of_ble_eq_true rfl, Nat.le_of_ble_eq_true rfl⟩ rfl (hM) ?_
        rintro v2 w2 ⟨hv2, he2, hI2⟩
        rw [hv2]
        clear hv2 v2
        dsimp only [Option.toList, List.cons_append, List.nil_append, List.append_nil]
        refine wp_icmp_eq (pc' := 657) (pt := 1352) rfl rfl rfl (fun q_27 => ?_) (fun q_27 => ?_)
        · skip
          refine wp_iinc (pc' := 1355) rfl rfl rfl (inc_id (by omega) (by omega)) rfl ?_
          dsimp only [lset, lset2, List.set, List.getElem?_cons_zero, List.getElem?_cons_succ]
          refine wp_goto (pc' := 18) rfl rfl ?_
          exact ih (i + 6) w2 (by omega) (by omega) hI2 (by rw [he2, he1]; exact hw)
        · skip
          refine wp_iconst (a := 0) (pc' := 658) rfl rfl rfl ?_
          refine wp_ret rfl rfl rfl ?_
          first | (exfalso; omega) | rfl
      refine wp_swE (13) (pt := 659) rfl (by decide) rfl rfl (fun q_28 => ?_) (fun q_28 => ?_)
      · skip
        refine wp_aload_n (pc' := 660) rfl rfl rfl (by decide) ?_
        refine wp_call (pc' := 663) rfl rfl rfl rfl rfl ⟨Nat.le_of_ble_eq_true rfl, Nat.le_of_ble_eq_true rfl, Nat.le_of_ble_eq_true rfl, Nat.le_of_ble_eq_true rfl, Nat.le_of_ble_eq_true rfl⟩ rfl (p_year (d := 0) hI) ?_
        rintro v1 w1 ⟨a1, hv1, he1, hM⟩
        rw [hv1]
        clear hv1 v1
        have hlen1 : w1 (-2) (-1) = (L : Int) := by rw [he1]; exact hlen
        dsimp only [Option.toList, List.cons_append, List.nil_append, List.append_nil]
        refine wp_aload_n (pc' := 664) rfl rfl rfl (by decide) ?_
        try rw [he1]
        refine wp_call (pc' := 667) rfl rfl rfl rfl rfl ⟨Nat.le_of_ble_eq_true rfl, Nat.le_of_ble_eq_true rfl, Nat.le_of_ble_eq_true rfl, Nat.le_of_ble_eq_true rfl, Nat.le_of_ble_eq_true rfl⟩ rfl (hM) ?_
        rintro v2 w2 ⟨hv2, he2, hI2⟩
        rw [hv2]
        clear hv2 v2
        dsimp only [Option.toList, List.cons_append, List.nil_append, List.append_nil]
        refine wp_icmp_eq (pc' := 670) (pt := 1352) rfl rfl rfl (fun q_29 => ?_) (fun q_29 => ?_)
        · skip
          refine wp_iinc (pc' := 1355) rfl rfl rfl (inc_id (by omega) (by omega)) rfl ?_
          dsimp only [lset, lset2, List.set, List.getElem?_cons_zero, List.getElem?_cons_succ]
          refine wp_goto (pc' := 18) rfl rfl ?_
          exact ih (i + 6) w2 (by omega) (by omega) hI2 (by rw [he2, he1]; exact hw)
        · skip
          refine wp_iconst (a := 0) (pc' := 671) rfl rfl rfl ?_
          refine wp_ret rfl rfl rfl ?_
          first | (exfalso; omega) | rfl
      refine wp_swE (14) (pt := 672) rfl (by decide) rfl rfl (fun q_30 => ?_) (fun q_30 => ?_)
      · skip
        refine wp_aload_n (pc' := 673) rfl rfl rfl (by decide) ?_
        refine wp_aload_n (pc' := 674) rfl rfl rfl (by decide) ?_
        refine wp_iload_n (pc' := 675) rfl rfl rfl ?_
        refine wp_iconst (a := 1) (pc' := 676) rfl rfl rfl ?_
        refine wp_iadd (pc' := 677) rfl rfl (by first | exact w32_id (by omega) (by omega) | rfl) ?_
        refine wp_ialoadO (pc' := 678) rfl rfl (by decide) rfl (by omega) ?_
        refine wp_call (pc' := 681) rfl rfl rfl rfl rfl ⟨Nat.le_of_ble_eq_true rfl, Nat.le_of_ble_eq_true rfl, Nat.le_of_ble_eq_true rfl, Nat.le_of_ble_eq_true rfl, Nat.le_of_ble_eq_true rfl⟩ rfl (p_push (d := 0) hI) ?_
        rintro v1 w1 ⟨a1, hv1, he1, hM⟩
        rw [hv1]
        clear hv1 v1
        have hlen1 : w1 (-2) (-1) = (L : Int) := by rw [he1]; exact hlen
        dsimp only [Option.toList, List.cons_append, List.nil_append, List.append_nil]
        refine wp_aload_n (pc' := 682) rfl rfl rfl (by decide) ?_
        refine wp_aload_n (pc' := 683) rfl rfl rfl (by decide) ?_
        refine wp_iload_n (pc' := 684) rfl rfl rfl ?_
        refine wp_iconst (a := 1) (pc' := 685) rfl rfl rfl ?_
        refine wp_iadd (pc' := 686) rfl rfl (by first | exact w32_id (by omega) (by omega) | rfl) ?_
        refine wp_ialoadO (pc' := 687) rfl rfl (by decide) rfl (by omega) ?_
        try rw [he1]
        refine wp_call (pc' := 690) rfl rfl rfl rfl rfl ⟨Nat.le_of_ble_eq_true rfl, Nat.le_of_ble_eq_true rfl, Nat.le_of_ble_eq_true rfl, Nat.le_of_ble_eq_true rfl, Nat.le_of_ble_eq_true rfl⟩ rfl (hM) ?_
        rintro v2 w2 ⟨hv2, he2, hI2⟩
        rw [hv2]
        clear hv2 v2
        dsimp only [Option.toList, List.cons_append, List.nil_append, List.append_nil]
        refine wp_icmp_eq (pc' := 693) (pt := 1352) rfl rfl rfl (fun q_31 => ?_) (fun q_31 => ?_)
        · skip
          refine wp_iinc (pc' := 1355) rfl rfl rfl (inc_id (by omega) (by omega)) rfl ?_
          dsimp only [lset, lset2, List.set, List.getElem?_cons_zero, List.getElem?_cons_succ]
          refine wp_goto (pc' := 18) rfl rfl ?_
          exact ih (i + 6) w2 (by omega) (by omega) hI2 (by rw [he2, he1]; exact hw)
        · skip
          refine wp_iconst (a := 0) (pc' := 694) rfl rfl rfl ?_
          refine wp_ret rfl rfl rfl ?_
          first | (exfalso; omega) | rfl
      refine wp_swE (15) (pt := 695) rfl (by decide) rfl rfl (fun q_32 => ?_) (fun q_32 => ?_)
      · skip
        refine wp_aload_n (pc' := 696) rfl rfl rfl (by decide) ?_
        refine wp_aload_n (pc' := 697) rfl rfl rfl (by decide) ?_
        refine wp_iload_n (pc' := 698) rfl rfl rfl ?_
        refine wp_iconst (a := 1) (pc' := 699) rfl rfl rfl ?_
        refine wp_iadd (pc' := 700) rfl rfl (by first | exact w32_id (by omega) (by omega) | rfl) ?_
        refine wp_ialoadO (pc' := 701) rfl rfl (by decide) rfl (by omega) ?_
        refine wp_aload_n (pc' := 702) rfl rfl rfl (by decide) ?_
        refine wp_iload_n (pc' := 703) rfl rfl rfl ?_
        refine wp_iconst (a := 2) (pc' := 704) rfl rfl rfl ?_
        refine wp_iadd (pc' := 705) rfl rfl (by first | exact w32_id (by omega) (by omega) | rfl) ?_
        refine wp_ialoadO (pc' := 706) rfl rfl (by decide) rfl (by omega) ?_
        refine wp_call (pc' := 709) rfl rfl rfl rfl rfl ⟨Nat.le_of_ble_eq_true rfl, Nat.le_of_ble_eq_true rfl, Nat.le_of_ble_eq_true rfl, Nat.le_of_ble_eq_true rfl, Nat.le_of_ble_eq_true rfl⟩ rfl (p_house (d := 0) hI) ?_
        rintro v1 w1 ⟨a1, hv1, he1, hM⟩
        rw [hv1]
        clear hv1 v1
        have hlen1 : w1 (-2) (-1) = (L : Int) := by rw [he1]; exact hlen
        dsimp only [Option.toList, List.cons_append, List.nil_append, List.append_nil]
        refine wp_aload_n (pc' := 710) rfl rfl rfl (by decide) ?_
        refine wp_aload_n (pc' := 711) rfl rfl rfl (by decide) ?_
        refine wp_iload_n (pc' := 712) rfl rfl rfl ?_
        refine wp_iconst (a := 1) (pc' := 713) rfl rfl rfl ?_
        refine wp_iadd (pc' := 714) rfl rfl (by first | exact w32_id (by omega) (by omega) | rfl) ?_
        refine wp_ialoadO (pc' := 715) rfl rfl (by decide) rfl (by omega) ?_
        refine wp_aload_n (pc' := 716) rfl rfl rfl (by decide) ?_
        refine wp_iload_n (pc' := 717) rfl rfl rfl ?_
        refine wp_iconst (a := 2) (pc' := 718) rfl rfl rfl ?_
        refine wp_iadd (pc' := 719) rfl rfl (by first | exact w32_id (by omega) (by omega) | rfl) ?_
        refine wp_ialoadO (pc' := 720) rfl rfl (by decide) rfl (by omega) ?_
        try rw [he1]
        refine wp_call (pc' := 723) rfl rfl rfl rfl rfl ⟨Nat.le_of_ble_eq_true rfl, Nat.le_of_ble_eq_true rfl, Nat.le_of_ble_eq_true rfl, Nat.le_of_ble_eq_true rfl, Nat.le_of_ble_eq_true rfl⟩ rfl (hM) ?_
        rintro v2 w2 ⟨hv2, he2, hI2⟩
        rw [hv2]
        clear hv2 v2
        dsimp only [Option.toList, List.cons_append, List.nil_append, List.append_nil]
        refine wp_icmp_eq (pc' := 726) (pt := 1352) rfl rfl rfl (fun q_33 => ?_) (fun q_33 => ?_)
        · skip
          refine wp_iinc (pc' := 1355) rfl rfl rfl (inc_id (by omega) (by omega)) rfl ?_
          dsimp only [lset, lset2, List.set, List.getElem?_cons_zero, List.getElem?_cons_succ]
          refine wp_goto (pc' := 18) rfl rfl ?_
          exact ih (i + 6) w2 (by omega) (by omega) hI2 (by rw [he2, he1]; exact hw)
        · skip
          refine wp_iconst (a := 0) (pc' := 727) rfl rfl rfl ?_
          refine wp_ret rfl rfl rfl ?_
          first | (exfalso; omega) | rfl
      refine wp_swE (16) (pt := 728) rfl (by decide) rfl rfl (fun q_34 => ?_) (fun q_34 => ?_)
      · skip
        refine wp_aload_n (pc' := 729) rfl rfl rfl (by decide) ?_
        refine wp_aload_n (pc' := 730) rfl rfl rfl (by decide) ?_
        refine wp_iload_n (pc' := 731) rfl rfl rfl ?_
        refine wp_iconst (a := 1) (pc' := 732) rfl rfl rfl ?_
        refine wp_iadd (pc' := 733) rfl rfl (by first | exact w32_id (by omega) (by omega) | rfl) ?_
        refine wp_ialoadO (pc' := 734) rfl rfl (by decide) rfl (by omega) ?_
        refine wp_call (pc' := 737) rfl rfl rfl rfl rfl ⟨Nat.le_of_ble_eq_true rfl, Nat.le_of_ble_eq_true rfl, Nat.le_of_ble_eq_true rfl, Nat.le_of_ble_eq_true rfl, Nat.le_of_ble_eq_true rfl⟩ rfl (p_undo (d := 0) hI) ?_
        rintro v1 w1 ⟨a1, hv1, he1, hM⟩
        rw [hv1]
        clear hv1 v1
        have hlen1 : w1 (-2) (-1) = (L : Int) := by rw [he1]; exact hlen
        dsimp only [Option.toList, List.cons_append, List.nil_append, List.append_nil]
        refine wp_aload_n (pc' := 738) rfl rfl rfl (by decide) ?_
        refine wp_aload_n (pc' := 739) rfl rfl rfl (by decide) ?_
        refine wp_iload_n (pc' := 740) rfl rfl rfl ?_
        refine wp_iconst (a := 1) (pc' := 741) rfl rfl rfl ?_
        refine wp_iadd (pc' := 742) rfl rfl (by first | exact w32_id (by omega) (by omega) | rfl) ?_
        refine wp_ialoadO (pc' := 743) rfl rfl (by decide) rfl (by omega) ?_
        try rw [he1]
        refine wp_call (pc' := 746) rfl rfl rfl rfl rfl ⟨Nat.le_of_ble_eq_true rfl, Nat.le_of_ble_eq_true rfl, Nat.le_of_ble_eq_true rfl, Nat.le_of_ble_eq_true rfl, Nat.le_of_ble_eq_true rfl⟩ rfl (hM) ?_
        rintro v2 w2 ⟨hv2, he2, hI2⟩
        rw [hv2]
        clear hv2 v2
        dsimp only [Option.toList, List.cons_append, List.nil_append, List.append_nil]
        refine wp_icmp_eq (pc' := 749) (pt := 1352) rfl rfl rfl (fun q_35 => ?_) (fun q_35 => ?_)
        · skip
          refine wp_iinc (pc' := 1355) rfl rfl rfl (inc_id (by omega) (by omega)) rfl ?_
          dsimp only [lset, lset2, List.set, List.getElem?_cons_zero, List.getElem?_cons_succ]
          refine wp_goto (pc' := 18) rfl rfl ?_
          exact ih (i + 6) w2 (by omega) (by omega) hI2 (by rw [he2, he1]; exact hw)
        · skip
          refine wp_iconst (a := 0) (pc' := 750) rfl rfl rfl ?_
          refine wp_ret rfl rfl rfl ?_
          first | (exfalso; omega) | rfl
      refine wp_swE (17) (pt := 751) rfl (by decide) rfl rfl (fun q_36 => ?_) (fun q_36 => ?_)
      · skip
        refine wp_aload_n (pc' := 752) rfl rfl rfl (by decide) ?_
        refine wp_aload_n (pc' := 753) rfl rfl rfl (by decide) ?_
        refine wp_iload_n (pc' := 754) rfl rfl rfl ?_
        refine wp_iconst (a := 1) (pc' := 755) rfl rfl rfl ?_
        refine wp_iadd (pc' := 756) rfl rfl (by first | exact w32_id (by omega) (by omega) | rfl) ?_
        refine wp_ialoadO (pc' := 757) rfl rfl (by decide) rfl (by omega) ?_
        refine wp_call (pc' := 760) rfl rfl rfl rfl rfl ⟨Nat.le_of_ble_eq_true rfl, Nat.le_of_ble_eq_true rfl, Nat.le_of_ble_eq_true rfl, Nat.le_of_ble_eq_true rfl, Nat.le_of_ble_eq_true rfl⟩ rfl (p_keep (d := 0) hI) ?_
        rintro v1 w1 ⟨a1, hv1, he1, hM⟩
        rw [hv1]
        clear hv1 v1
        have hlen1 : w1 (-2) (-1) = (L : Int) := by rw [he1]; exact hlen
        dsimp only [Option.toList, List.cons_append, List.nil_append, List.append_nil]
        refine wp_aload_n (pc' := 761) rfl rfl rfl (by decide) ?_
        refine wp_aload_n (pc' := 762) rfl rfl rfl (by decide) ?_
        refine wp_iload_n (pc' := 763) rfl rfl rfl ?_
        refine wp_iconst (a := 1) (pc' := 764) rfl rfl rfl ?_
        refine wp_iadd (pc' := 765) rfl rfl (by first | exact w32_id (by omega) (by omega) | rfl) ?_
        refine wp_ialoadO (pc' := 766) rfl rfl (by decide) rfl (by omega) ?_
        try rw [he1]
        refine wp_call (pc' := 769) rfl rfl rfl rfl rfl ⟨Nat.le_of_ble_eq_true rfl, Nat.le_of_ble_eq_true rfl, Nat.le_of_ble_eq_true rfl, Nat.le_of_ble_eq_true rfl, Nat.le_of_ble_eq_true rfl⟩ rfl (hM) ?_
        rintro v2 w2 ⟨hv2, he2, hI2⟩
        rw [hv2]
        clear hv2 v2
        dsimp only [Option.toList, List.cons_append, List.nil_append, List.append_nil]
        refine wp_icmp_eq (pc' := 772) (pt := 1352) rfl rfl rfl (fun q_37 => ?_) (fun q_37 => ?_)
        · skip
          refine wp_iinc (pc' := 1355) rfl rfl rfl (inc_id (by omega) (by omega)) rfl ?_
          dsimp only [lset, lset2, List.set, List.getElem?_cons_zero, List.getElem?_cons_succ]
          refine wp_goto (pc' := 18) rfl rfl ?_
          exact ih (i + 6) w2 (by omega) (by omega) hI2 (by rw [he2, he1]; exact hw)
        · skip
          refine wp_iconst (a := 0) (pc' := 773) rfl rfl rfl ?_
          refine wp_ret rfl rfl rfl ?_
          first | (exfalso; omega) | rfl
      refine wp_swE (18) (pt := 774) rfl (by decide) rfl rfl (fun q_38 => ?_) (fun q_38 => ?_)
      · skip
        refine wp_aload_n (pc' := 775) rfl rfl rfl (by decide) ?_
        refine wp_aload_n (pc' := 776) rfl rfl rfl (by decide) ?_
        refine wp_iload_n (pc' := 777) rfl rfl rfl ?_
        refine wp_iconst (a := 1) (pc' := 778) rfl rfl rfl ?_
        refine wp_iadd (pc' := 779) rfl rfl (by first | exact w32_id (by omega) (by omega) | rfl) ?_
        refine wp_ialoadO (pc' := 780) rfl rfl (by decide) rfl (by omega) ?_
        refine wp_call (pc' := 783) rfl rfl rfl rfl rfl ⟨Nat.le_of_ble_eq_true rfl, Nat.le_of_ble_eq_true rfl, Nat.le_of_ble_eq_true rfl, Nat.le_of_ble_eq_true rfl, Nat.le_of_ble_eq_true rfl⟩ rfl (p_on (d := 0) hI) ?_
        rintro v1 w1 ⟨a1, hv1, he1, hM⟩
        rw [hv1]
        clear hv1 v1
        have hlen1 : w1 (-2) (-1) = (L : Int) := by rw [he1]; exact hlen
        dsimp only [Option.toList, List.cons_append, List.nil_append, List.append_nil]
        refine wp_aload_n (pc' := 784) rfl rfl rfl (by decide) ?_
        refine wp_aload_n (pc' := 785) rfl rfl rfl (by decide) ?_
        refine wp_iload_n (pc' := 786) rfl rfl rfl ?_
        refine wp_iconst (a := 1) (pc' := 787) rfl rfl rfl ?_
        refine wp_iadd (pc' := 788) rfl rfl (by first | exact w32_id (by omega) (by omega) | rfl) ?_
        refine wp_ialoadO (pc' := 789) rfl rfl (by decide) rfl (by omega) ?_
        try rw [he1]
        refine wp_call (pc' := 792) rfl rfl rfl rfl rfl ⟨Nat.le_of_ble_eq_true rfl, Nat.le_of_ble_eq_true rfl, Nat.le_of_ble_eq_true rfl, Nat.le_of_ble_eq_true rfl, Nat.le_of_ble_eq_true rfl⟩ rfl (hM) ?_
        rintro v2 w2 ⟨hv2, he2, hI2⟩
        rw [hv2]
        clear hv2 v2
        dsimp only [Option.toList, List.cons_append, List.nil_append, List.append_nil]
        refine wp_icmp_eq (pc' := 795) (pt := 1352) rfl rfl rfl (fun q_39 => ?_) (fun q_39 => ?_)
        · skip
          refine wp_iinc (pc' := 1355) rfl rfl rfl (inc_id (by omega) (by omega)) rfl ?_
          dsimp only [lset, lset2, List.set, List.getElem?_cons_zero, List.getElem?_cons_succ]
          refine wp_goto (pc' := 18) rfl rfl ?_
          exact ih (i + 6) w2 (by omega) (by omega) hI2 (by rw [he2, he1]; exact hw)
        · skip
          refine wp_iconst (a := 0) (pc' := 796) rfl rfl rfl ?_
          refine wp_ret rfl rfl rfl ?_
          first | (exfalso; omega) | rfl
      refine wp_swE (19) (pt := 797) rfl (by decide) rfl rfl (fun q_40 => ?_) (fun q_40 => ?_)
      · skip
        refine wp_aload_n (pc' := 798) rfl rfl rfl (by decide) ?_
        refine wp_aload_n (pc' := 799) rfl rfl rfl (by decide) ?_
        refine wp_iload_n (pc' := 800) rfl rfl rfl ?_
        refine wp_iconst (a := 1) (pc' := 801) rfl rfl rfl ?_
        refine wp_iadd (pc' := 802) rfl rfl (by first | exact w32_id (by omega) (by omega) | rfl) ?_
        refine wp_ialoadO (pc' := 803) rfl rfl (by decide) rfl (by omega) ?_
        refine wp_call (pc' := 806) rfl rfl rfl rfl rfl ⟨Nat.le_of_ble_eq_true rfl, Nat.le_of_ble_eq_true rfl, Nat.le_of_ble_eq_true rfl, Nat.le_of_ble_eq_true rfl, Nat.le_of_ble_eq_true rfl⟩ rfl (p_votes (d := 0) hI) ?_
        rintro v1 w1 ⟨a1, hv1, he1, hM⟩
        rw [hv1]
        clear hv1 v1
        have hlen1 : w1 (-2) (-1) = (L : Int) := by rw [he1]; exact hlen
        dsimp only [Option.toList, List.cons_append, List.nil_append, List.append_nil]
        refine wp_aload_n (pc' := 807) rfl rfl rfl (by decide) ?_
        refine wp_aload_n (pc' := 808) rfl rfl rfl (by decide) ?_
        refine wp_iload_n (pc' := 809) rfl rfl rfl ?_
        refine wp_iconst (a := 1) (pc' := 810) rfl rfl rfl ?_
        refine wp_iadd (pc' := 811) rfl rfl (by first | exact w32_id (by omega) (by omega) | rfl) ?_
        refine wp_ialoadO (pc' := 812) rfl rfl (by decide) rfl (by omega) ?_
        try rw [he1]
        refine wp_call (pc' := 815) rfl rfl rfl rfl rfl ⟨Nat.le_of_ble_eq_true rfl, Nat.le_of_ble_eq_true rfl, Nat.le_of_ble_eq_true rfl, Nat.le_of_ble_eq_true rfl, Nat.le_of_ble_eq_true rfl⟩ rfl (hM) ?_
        rintro v2 w2 ⟨hv2, he2, hI2⟩
        rw [hv2]
        clear hv2 v2
        dsimp only [Option.toList, List.cons_append, List.nil_append, List.append_nil]
        refine wp_icmp_eq (pc' := 818) (pt := 1352) rfl rfl rfl (fun q_41 => ?_) (fun q_41 => ?_)
        · skip
          refine wp_iinc (pc' := 1355) rfl rfl rfl (inc_id (by omega) (by omega)) rfl ?_
          dsimp only [lset, lset2, List.set, List.getElem?_cons_zero, List.getElem?_cons_succ]
          refine wp_goto (pc' := 18) rfl rfl ?_
          exact ih (i + 6) w2 (by omega) (by omega) hI2 (by rw [he2, he1]; exact hw)
        · skip
          refine wp_iconst (a := 0) (pc' := 819) rfl rfl rfl ?_
          refine wp_ret rfl rfl rfl ?_
          first | (exfalso; omega) | rfl
      refine wp_swE (20) (pt := 820) rfl (by decide) rfl rfl (fun q_42 => ?_) (fun q_42 => ?_)
      · skip
        refine wp_aload_n (pc' := 821) rfl rfl rfl (by decide) ?_
        refine wp_call (pc' := 824) rfl rfl rfl rfl rfl ⟨Nat.le_of_ble_eq_true rfl, Nat.le_of_ble_eq_true rfl, Nat.le_of_ble_eq_true rfl, Nat.le_of_ble_eq_true rfl, Nat.le_of_ble_eq_true rfl⟩ rfl (p_carries (d := 0) hI) ?_
        rintro v1 w1 ⟨a1, hv1, he1, hM⟩
        rw [hv1]
        clear hv1 v1
        have hlen1 : w1 (-2) (-1) = (L : Int) := by rw [he1]; exact hlen
        dsimp only [Option.toList, List.cons_append, List.nil_append, List.append_nil]
        refine wp_aload_n (pc' := 825) rfl rfl rfl (by decide) ?_
        try rw [he1]
        refine wp_call (pc' := 828) rfl rfl rfl rfl rfl ⟨Nat.le_of_ble_eq_true rfl, Nat.le_of_ble_eq_true rfl, Nat.le_of_ble_eq_true rfl, Nat.le_of_ble_eq_true rfl, Nat.le_of_ble_eq_true rfl⟩ rfl (hM) ?_
        rintro v2 w2 ⟨hv2, he2, hI2⟩
        rw [hv2]
        clear hv2 v2
        dsimp only [Option.toList, List.cons_append, List.nil_append, List.append_nil]
        refine wp_icmp_eq (pc' := 831) (pt := 1352) rfl rfl rfl (fun q_43 => ?_) (fun q_43 => ?_)
        · skip
          refine wp_iinc (pc' := 1355) rfl rfl rfl (inc_id (by omega) (by omega)) rfl ?_
          dsimp only [lset, lset2, List.set, List.getElem?_cons_zero, List.getElem?_cons_succ]
          refine wp_goto (pc' := 18) rfl rfl ?_
          exact ih (i + 6) w2 (by omega) (by omega) hI2 (by rw [he2, he1]; exact hw)
        · skip
          refine wp_iconst (a := 0) (pc' := 832) rfl rfl rfl ?_
          refine wp_ret rfl rfl rfl ?_
          first | (exfalso; omega) | rfl
      refine wp_swE (21) (pt := 833) rfl (by decide) rfl rfl (fun q_44 => ?_) (fun q_44 => ?_)
      · skip
        refine wp_aload_n (pc' := 834) rfl rfl rfl (by decide) ?_
        refine wp_aload_n (pc' := 835) rfl rfl rfl (by decide) ?_
        refine wp_iload_n (pc' := 836) rfl rfl rfl ?_
        refine wp_iconst (a := 1) (pc' := 837) rfl rfl rfl ?_
        refine wp_iadd (pc' := 838) rfl rfl (by first | exact w32_id (by omega) (by omega) | rfl) ?_
        refine wp_ialoadO (pc' := 839) rfl rfl (by decide) rfl (by omega) ?_
        refine wp_call (pc' := 842) rfl rfl rfl rfl rfl ⟨Nat.le_of_ble_eq_true rfl, Nat.le_of_ble_eq_true rfl, Nat.le_of_ble_eq_true rfl, Nat.le_of_ble_eq_true rfl, Nat.le_of_ble_eq_true rfl⟩ rfl (p_buy (d := 0) hI) ?_
        rintro v1 w1 ⟨a1, hv1, he1, hM⟩
        rw [hv1]
        clear hv1 v1
        have hlen1 : w1 (-2) (-1) = (L : Int) := by rw [he1]; exact hlen
        dsimp only [Option.toList, List.cons_append, List.nil_append, List.append_nil]
        refine wp_aload_n (pc' := 843) rfl rfl rfl (by decide) ?_
        refine wp_aload_n (pc' := 844) rfl rfl rfl (by decide) ?_
        refine wp_iload_n (pc' := 845) rfl rfl rfl ?_
        refine wp_iconst (a := 1) (pc' := 846) rfl rfl rfl ?_
        refine wp_iadd (pc' := 847) rfl rfl (by first | exact w32_id (by omega) (by omega) | rfl) ?_
        refine wp_ialoadO (pc' := 848) rfl rfl (by decide) rfl (by omega) ?_
        try rw [he1]
        refine wp_call (pc' := 851) rfl rfl rfl rfl rfl ⟨Nat.le_of_ble_eq_true rfl, Nat.le_of_ble_eq_true rfl, Nat.le_of_ble_eq_true rfl, Nat.le_of_ble_eq_true rfl, Nat.le_of_ble_eq_true rfl⟩ rfl (hM) ?_
        rintro v2 w2 ⟨hv2, he2, hI2⟩
        rw [hv2]
        clear hv2 v2
        dsimp only [Option.toList, List.cons_append, List.nil_append, List.append_nil]
        refine wp_icmp_eq (pc' := 854) (pt := 1352) rfl rfl rfl (fun q_45 => ?_) (fun q_45 => ?_)
        · skip
          refine wp_iinc (pc' := 1355) rfl rfl rfl (inc_id (by omega) (by omega)) rfl ?_
          dsimp only [lset, lset2, List.set, List.getElem?_cons_zero, List.getElem?_cons_succ]
          refine wp_goto (pc' := 18) rfl rfl ?_
          exact ih (i + 6) w2 (by omega) (by omega) hI2 (by rw [he2, he1]; exact hw)
        · skip
          refine wp_iconst (a := 0) (pc' := 855) rfl rfl rfl ?_
          refine wp_ret rfl rfl rfl ?_
          first | (exfalso; omega) | rfl
      refine wp_swE (22) (pt := 856) rfl (by decide) rfl rfl (fun q_46 => ?_) (fun q_46 => ?_)
      · skip
        refine wp_aload_n (pc' := 857) rfl rfl rfl (by decide) ?_
        refine wp_aload_n (pc' := 858) rfl rfl rfl (by decide) ?_
        refine wp_iload_n (pc' := 859) rfl rfl rfl ?_
        refine wp_iconst (a := 1) (pc' := 860) rfl rfl rfl ?_
        refine wp_iadd (pc' := 861) rfl rfl (by first | exact w32_id (by omega) (by omega) | rfl) ?_
        refine wp_ialoadO (pc' := 862) rfl rfl (by decide) rfl (by omega) ?_
        refine wp_call (pc' := 865) rfl rfl rfl rfl rfl ⟨Nat.le_of_ble_eq_true rfl, Nat.le_of_ble_eq_true rfl, Nat.le_of_ble_eq_true rfl, Nat.le_of_ble_eq_true rfl, Nat.le_of_ble_eq_true rfl⟩ rfl (p_then (d := 0) hI) ?_
        rintro v1 w1 ⟨a1, hv1, he1, hM⟩
        rw [hv1]
        clear hv1 v1
        have hlen1 : w1 (-2) (-1) = (L : Int) := by rw [he1]; exact hlen
        dsimp only [Option.toList, List.cons_append, List.nil_append, List.append_nil]
        refine wp_aload_n (pc' := 866) rfl rfl rfl (by decide) ?_
        refine wp_aload_n (pc' := 867) rfl rfl rfl (by decide) ?_
        refine wp_iload_n (pc' := 868) rfl rfl rfl ?_
        refine wp_iconst (a := 1) (pc' := 869) rfl rfl rfl ?_
        refine wp_iadd (pc' := 870) rfl rfl (by first | exact w32_id (by omega) (by omega) | rfl) ?_
        refine wp_ialoadO (pc' := 871) rfl rfl (by decide) rfl (by omega) ?_
        try rw [he1]
        refine wp_call (pc' := 874) rfl rfl rfl rfl rfl ⟨Nat.le_of_ble_eq_true rfl, Nat.le_of_ble_eq_true rfl, Nat.le_of_ble_eq_true rfl, Nat.le_of_ble_eq_true rfl, Nat.le_of_ble_eq_true rfl⟩ rfl (hM) ?_
        rintro v2 w2 ⟨hv2, he2, hI2⟩
        rw [hv2]
        clear hv2 v2
        dsimp only [Option.toList, List.cons_append, List.nil_append, List.append_nil]
        refine wp_icmp_eq (pc' := 877) (pt := 1352) rfl rfl rfl (fun q_47 => ?_) (fun q_47 => ?_)
        · skip
          refine wp_iinc (pc' := 1355) rfl rfl rfl (inc_id (by omega) (by omega)) rfl ?_
          dsimp only [lset, lset2, List.set, List.getElem?_cons_zero, List.getElem?_cons_succ]
          refine wp_goto (pc' := 18) rfl rfl ?_
          exact ih (i + 6) w2 (by omega) (by omega) hI2 (by rw [he2, he1]; exact hw)
        · skip
          refine wp_iconst (a := 0) (pc' := 878) rfl rfl rfl ?_
          refine wp_ret rfl rfl rfl ?_
          first | (exfalso; omega) | rfl
      refine wp_swE (23) (pt := 879) rfl (by decide) rfl rfl (fun q_48 => ?_) (fun q_48 => ?_)
      · skip
        refine wp_aload_n (pc' := 880) rfl rfl rfl (by decide) ?_
        refine wp_aload_n (pc' := 881) rfl rfl rfl (by decide) ?_
        refine wp_iload_n (pc' := 882) rfl rfl rfl ?_
        refine wp_iconst (a := 1) (pc' := 883) rfl rfl rfl ?_
        refine wp_iadd (pc' := 884) rfl rfl (by first | exact w32_id (by omega) (by omega) | rfl) ?_
        refine wp_ialoadO (pc' := 885) rfl rfl (by decide) rfl (by omega) ?_
        refine wp_call (pc' := 888) rfl rfl rfl rfl rfl ⟨Nat.le_of_ble_eq_true rfl, Nat.le_of_ble_eq_true rfl, Nat.le_of_ble_eq_true rfl, Nat.le_of_ble_eq_true rfl, Nat.le_of_ble_eq_true rfl⟩ rfl (p_when (d := 0) hI) ?_
        rintro v1 w1 ⟨a1, hv1, he1, hM⟩
        rw [hv1]
        clear hv1 v1
        have hlen1 : w1 (-2) (-1) = (L : Int) := by rw [he1]; exact hlen
        dsimp only [Option.toList, List.cons_append, List.nil_append, List.append_nil]
        refine wp_aload_n (pc' := 889) rfl rfl rfl (by decide) ?_
        refine wp_aload_n (pc' := 890) rfl rfl rfl (by decide) ?_
        refine wp_iload_n (pc' := 891) rfl rfl rfl ?_
        refine wp_iconst (a := 1) (pc' := 892) rfl rfl rfl ?_
        refine wp_iadd (pc' := 893) rfl rfl (by first | exact w32_id (by omega) (by omega) | rfl) ?_
        refine wp_ialoadO (pc' := 894) rfl rfl (by decide) rfl (by omega) ?_
        try rw [he1]
        refine wp_call (pc' := 897) rfl rfl rfl rfl rfl ⟨Nat.le_of_ble_eq_true rfl, Nat.le_of_ble_eq_true rfl, Nat.le_of_ble_eq_true rfl, Nat.le_of_ble_eq_true rfl, Nat.le_of_ble_eq_true rfl⟩ rfl (hM) ?_
        rintro v2 w2 ⟨hv2, he2, hI2⟩
        rw [hv2]
        clear hv2 v2
        dsimp only [Option.toList, List.cons_append, List.nil_append, List.append_nil]
        refine wp_icmp_eq (pc' := 900) (pt := 1352) rfl rfl rfl (fun q_49 => ?_) (fun q_49 => ?_)
        · skip
          refine wp_iinc (pc' := 1355) rfl rfl rfl (inc_id (by omega) (by omega)) rfl ?_
          dsimp only [lset, lset2, List.set, List.getElem?_cons_zero, List.getElem?_cons_succ]
          refine wp_goto (pc' := 18) rfl rfl ?_
          exact ih (i + 6) w2 (by omega) (by omega) hI2 (by rw [he2, he1]; exact hw)
        · skip
          refine wp_iconst (a := 0) (pc' := 901) rfl rfl rfl ?_
          refine wp_ret rfl rfl rfl ?_
          first | (exfalso; omega) | rfl
      refine wp_swE (24) (pt := 902) rfl (by decide) rfl rfl (fun q_50 => ?_) (fun q_50 => ?_)
      · skip
        refine wp_aload_n (pc' := 903) rfl rfl rfl (by decide) ?_
        refine wp_call (pc' := 906) rfl rfl rfl rfl rfl ⟨Nat.le_of_ble_eq_true rfl, Nat.le_of_ble_eq_true rfl, Nat.le_of_ble_eq_true rfl, Nat.le_of_ble_eq_true rfl, Nat.le_of_ble_eq_true rfl⟩ rfl (p_round (d := 0) hI) ?_
        rintro v1 w1 ⟨a1, hv1, he1, hM⟩
        rw [hv1]
        clear hv1 v1
        have hlen1 : w1 (-2) (-1) = (L : Int) := by rw [he1]; exact hlen
        dsimp only [Option.toList, List.cons_append, List.nil_append, List.append_nil]
        refine wp_aload_n (pc' := 907) rfl rfl rfl (by decide) ?_
        try rw [he1]
        refine wp_call (pc' := 910) rfl rfl rfl rfl rfl ⟨Nat.le_of_ble_eq_true rfl, Nat.le_of_ble_eq_true rfl, Nat.le_of_ble_eq_true rfl, Nat.le_of_ble_eq_true rfl, Nat.le_of_ble_eq_true rfl⟩ rfl (hM) ?_
        rintro v2 w2 ⟨hv2, he2, hI2⟩
        rw [hv2]
        clear hv2 v2
        dsimp only [Option.toList, List.cons_append, List.nil_append, List.append_nil]
        refine wp_icmp_eq (pc' := 913) (pt := 1352) rfl rfl rfl (fun q_51 => ?_) (fun q_51 => ?_)
        · skip
          refine wp_iinc (pc' := 1355) rfl rfl rfl (inc_id (by omega) (by omega)) rfl ?_
          dsimp only [lset, lset2, List.set, List.getElem?_cons_zero, List.getElem?_cons_succ]
          refine wp_goto (pc' := 18) rfl rfl ?_
          exact ih (i + 6) w2 (by omega) (by omega) hI2 (by rw [he2, he1]; exact hw)
        · skip
          refine wp_iconst (a := 0) (pc' := 914) rfl rfl rfl ?_
          refine wp_ret rfl rfl rfl ?_
          first | (exfalso; omega) | rfl
      refine wp_swE (25) (pt := 915) rfl (by decide) rfl rfl (fun q_52 => ?_) (fun q_52 => ?_)
      · skip
        refine wp_aload_n (pc' := 916) rfl rfl rfl (by decide) ?_
        refine wp_aload_n (pc' := 917) rfl rfl rfl (by decide) ?_
        refine wp_iload_n (pc' := 918) rfl rfl rfl ?_
        refine wp_iconst (a := 1) (pc' := 919) rfl rfl rfl ?_
        refine wp_iadd (pc' := 920) rfl rfl (by first | exact w32_id (by omega) (by omega) | rfl) ?_
        refine wp_ialoadO (pc' := 921) rfl rfl (by decide) rfl (by omega) ?_
        refine wp_aload_n (pc' := 922) rfl rfl rfl (by decide) ?_
        refine wp_iload_n (pc' := 923) rfl rfl rfl ?_
        refine wp_iconst (a := 2) (pc' := 924) rfl rfl rfl ?_
        refine wp_iadd (pc' := 925) rfl rfl (by first | exact w32_id (by omega) (by omega) | rfl) ?_
        refine wp_ialoadO (pc' := 926) rfl rfl (by decide) rfl (by omega) ?_
        refine wp_call (pc' := 929) rfl rfl rfl rfl rfl ⟨Nat.le_of_ble_eq_true rfl, Nat.le_of_ble_eq_true rfl, Nat.le_of_ble_eq_true rfl, Nat.le_of_ble_eq_true rfl, Nat.le_of_ble_eq_true rfl⟩ rfl (p_course (d := 0) hI) ?_
        rintro v1 w1 ⟨a1, hv1, he1, hM⟩
        rw [hv1]
        clear hv1 v1
        have hlen1 : w1 (-2) (-1) = (L : Int) := by rw [he1]; exact hlen
        dsimp only [Option.toList, List.cons_append, List.nil_append, List.append_nil]
        refine wp_aload_n (pc' := 930) rfl rfl rfl (by decide) ?_
        refine wp_aload_n (pc' := 931) rfl rfl rfl (by decide) ?_
        refine wp_iload_n (pc' := 932) rfl rfl rfl ?_
        refine wp_iconst (a := 1) (pc' := 933) rfl rfl rfl ?_
        refine wp_iadd (pc' := 934) rfl rfl (by first | exact w32_id (by omega) (by omega) | rfl) ?_
        refine wp_ialoadO (pc' := 935) rfl rfl (by decide) rfl (by omega) ?_
        refine wp_aload_n (pc' := 936) rfl rfl rfl (by decide) ?_
        refine wp_iload_n (pc' := 937) rfl rfl rfl ?_
        refine wp_iconst (a := 2) (pc' := 938) rfl rfl rfl ?_
        refine wp_iadd (pc' := 939) rfl rfl (by first | exact w32_id (by omega) (by omega) | rfl) ?_
        refine wp_ialoadO (pc' := 940) rfl rfl (by decide) rfl (by omega) ?_
        try rw [he1]
        refine wp_call (pc' := 943) rfl rfl rfl rfl rfl ⟨Nat.le_of_ble_eq_true rfl, Nat.le_of_ble_eq_true rfl, Nat.le_of_ble_eq_true rfl, Nat.le_of_ble_eq_true rfl, Nat.le_of_ble_eq_true rfl⟩ rfl (hM) ?_
        rintro v2 w2 ⟨hv2, he2, hI2⟩
        rw [hv2]
        clear hv2 v2
        dsimp only [Option.toList, List.cons_append, List.nil_append, List.append_nil]
        refine wp_icmp_eq (pc' := 946) (pt := 1352) rfl rfl rfl (fun q_53 => ?_) (fun q_53 => ?_)
        · skip
          refine wp_iinc (pc' := 1355) rfl rfl rfl (inc_id (by omega) (by omega)) rfl ?_
          dsimp only [lset, lset2, List.set, List.getElem?_cons_zero, List.getElem?_cons_succ]
          refine wp_goto (pc' := 18) rfl rfl ?_
          exact ih (i + 6) w2 (by omega) (by omega) hI2 (by rw [he2, he1]; exact hw)
        · skip
          refine wp_iconst (a := 0) (pc' := 947) rfl rfl rfl ?_
          refine wp_ret rfl rfl rfl ?_
          first | (exfalso; omega) | rfl
      refine wp_swE (26) (pt := 948) rfl (by decide) rfl rfl (fun q_54 => ?_) (fun q_54 => ?_)
      · skip
        refine wp_aload_n (pc' := 949) rfl rfl rfl (by decide) ?_
        refine wp_aload_n (pc' := 950) rfl rfl rfl (by decide) ?_
        refine wp_iload_n (pc' := 951) rfl rfl rfl ?_
        refine wp_iconst (a := 1) (pc' := 952) rfl rfl rfl ?_
        refine wp_iadd (pc' := 953) rfl rfl (by first | exact w32_id (by omega) (by omega) | rfl) ?_
        refine wp_ialoadO (pc' := 954) rfl rfl (by decide) rfl (by omega) ?_
        refine wp_call (pc' := 957) rfl rfl rfl rfl rfl ⟨Nat.le_of_ble_eq_true rfl, Nat.le_of_ble_eq_true rfl, Nat.le_of_ble_eq_true rfl, Nat.le_of_ble_eq_true rfl, Nat.le_of_ble_eq_true rfl⟩ rfl (p_fits (d := 0) hI) ?_
        rintro v1 w1 ⟨a1, hv1, he1, hM⟩
        rw [hv1]
        clear hv1 v1
        have hlen1 : w1 (-2) (-1) = (L : Int) := by rw [he1]; exact hlen
        dsimp only [Option.toList, List.cons_append, List.nil_append, List.append_nil]
        refine wp_aload_n (pc' := 958) rfl rfl rfl (by decide) ?_
        refine wp_aload_n (pc' := 959) rfl rfl rfl (by decide) ?_
        refine wp_iload_n (pc' := 960) rfl rfl rfl ?_
        refine wp_iconst (a := 1) (pc' := 961) rfl rfl rfl ?_
        refine wp_iadd (pc' := 962) rfl rfl (by first | exact w32_id (by omega) (by omega) | rfl) ?_
        refine wp_ialoadO (pc' := 963) rfl rfl (by decide) rfl (by omega) ?_
        try rw [he1]
        refine wp_call (pc' := 966) rfl rfl rfl rfl rfl ⟨Nat.le_of_ble_eq_true rfl, Nat.le_of_ble_eq_true rfl, Nat.le_of_ble_eq_true rfl, Nat.le_of_ble_eq_true rfl, Nat.le_of_ble_eq_true rfl⟩ rfl (hM) ?_
        rintro v2 w2 ⟨hv2, he2, hI2⟩
        rw [hv2]
        clear hv2 v2
        dsimp only [Option.toList, List.cons_append, List.nil_append, List.append_nil]
        refine wp_icmp_eq (pc' := 969) (pt := 1352) rfl rfl rfl (fun q_55 => ?_) (fun q_55 => ?_)
        · skip
          refine wp_iinc (pc' := 1355) rfl rfl rfl (inc_id (by omega) (by omega)) rfl ?_
          dsimp only [lset, lset2, List.set, List.getElem?_cons_zero, List.getElem?_cons_succ]
          refine wp_goto (pc' := 18) rfl rfl ?_
          exact ih (i + 6) w2 (by omega) (by omega) hI2 (by rw [he2, he1]; exact hw)
        · skip
          refine wp_iconst (a := 0) (pc' := 970) rfl rfl rfl ?_
          refine wp_ret rfl rfl rfl ?_
          first | (exfalso; omega) | rfl
      refine wp_swE (27) (pt := 971) rfl (by decide) rfl rfl (fun q_56 => ?_) (fun q_56 => ?_)
      · skip
        refine wp_aload_n (pc' := 972) rfl rfl rfl (by decide) ?_
        refine wp_aload_n (pc' := 973) rfl rfl rfl (by decide) ?_
        refine wp_iload_n (pc' := 974) rfl rfl rfl ?_
        refine wp_iconst (a := 1) (pc' := 975) rfl rfl rfl ?_
        refine wp_iadd (pc' := 976) rfl rfl (by first | exact w32_id (by omega) (by omega) | rfl) ?_
        refine wp_ialoadO (pc' := 977) rfl rfl (by decide) rfl (by omega) ?_
        refine wp_call (pc' := 980) rfl rfl rfl rfl rfl ⟨Nat.le_of_ble_eq_true rfl, Nat.le_of_ble_eq_true rfl, Nat.le_of_ble_eq_true rfl, Nat.le_of_ble_eq_true rfl, Nat.le_of_ble_eq_true rfl⟩ rfl (p_next (d := 0) hI) ?_
        rintro v1 w1 ⟨a1, hv1, he1, hM⟩
        rw [hv1]
        clear hv1 v1
        have hlen1 : w1 (-2) (-1) = (L : Int) := by rw [he1]; exact hlen
        dsimp only [Option.toList, List.cons_append, List.nil_append, List.append_nil]
        refine wp_aload_n (pc' := 981) rfl rfl rfl (by decide) ?_
        refine wp_aload_n (pc' := 982) rfl rfl rfl (by decide) ?_
        refine wp_iload_n (pc' := 983) rfl rfl rfl ?_
        refine wp_iconst (a := 1) (pc' := 984) rfl rfl rfl ?_
        refine wp_iadd (pc' := 985) rfl rfl (by first | exact w32_id (by omega) (by omega) | rfl) ?_
        refine wp_ialoadO (pc' := 986) rfl rfl (by decide) rfl (by omega) ?_
        try rw [he1]
        refine wp_call (pc' := 989) rfl rfl rfl rfl rfl ⟨Nat.le_of_ble_eq_true rfl, Nat.le_of_ble_eq_true rfl, Nat.le_of_ble_eq_true rfl, Nat.le_of_ble_eq_true rfl, Nat.le_of_ble_eq_true rfl⟩ rfl (hM) ?_
        rintro v2 w2 ⟨hv2, he2, hI2⟩
        rw [hv2]
        clear hv2 v2
        dsimp only [Option.toList, List.cons_append, List.nil_append, List.append_nil]
        refine wp_icmp_eq (pc' := 992) (pt := 1352) rfl rfl rfl (fun q_57 => ?_) (fun q_57 => ?_)
        · skip
          refine wp_iinc (pc' := 1355) rfl rfl rfl (inc_id (by omega) (by omega)) rfl ?_
          dsimp only [lset, lset2, List.set, List.getElem?_cons_zero, List.getElem?_cons_succ]
          refine wp_goto (pc' := 18) rfl rfl ?_
          exact ih (i + 6) w2 (by omega) (by omega) hI2 (by rw [he2, he1]; exact hw)
        · skip
          refine wp_iconst (a := 0) (pc' := 993) rfl rfl rfl ?_
          refine wp_ret rfl rfl rfl ?_
          first | (exfalso; omega) | rfl
      refine wp_swE (28) (pt := 994) rfl (by decide) rfl rfl (fun q_58 => ?_) (fun q_58 => ?_)
      · skip
        refine wp_aload_n (pc' := 995) rfl rfl rfl (by decide) ?_
        refine wp_aload_n (pc' := 996) rfl rfl rfl (by decide) ?_
        refine wp_iload_n (pc' := 997) rfl rfl rfl ?_
        refine wp_iconst (a := 1) (pc' := 998) rfl rfl rfl ?_
        refine wp_iadd (pc' := 999) rfl rfl (by first | exact w32_id (by omega) (by omega) | rfl) ?_
        refine wp_ialoadO (pc' := 1000) rfl rfl (by decide) rfl (by omega) ?_
        refine wp_aload_n (pc' := 1001) rfl rfl rfl (by decide) ?_
        refine wp_iload_n (pc' := 1002) rfl rfl rfl ?_
        refine wp_iconst (a := 2) (pc' := 1003) rfl rfl rfl ?_
        refine wp_iadd (pc' := 1004) rfl rfl (by first | exact w32_id (by omega) (by omega) | rfl) ?_
        refine wp_ialoadO (pc' := 1005) rfl rfl (by decide) rfl (by omega) ?_
        refine wp_call (pc' := 1008) rfl rfl rfl rfl rfl ⟨Nat.le_of_ble_eq_true rfl, Nat.le_of_ble_eq_true rfl, Nat.le_of_ble_eq_true rfl, Nat.le_of_ble_eq_true rfl, Nat.le_of_ble_eq_true rfl⟩ rfl (p_kinds (d := 0) hI) ?_
        rintro v1 w1 ⟨a1, hv1, he1, hM⟩
        rw [hv1]
        clear hv1 v1
        have hlen1 : w1 (-2) (-1) = (L : Int) := by rw [he1]; exact hlen
        dsimp only [Option.toList, List.cons_append, List.nil_append, List.append_nil]
        refine wp_aload_n (pc' := 1009) rfl rfl rfl (by decide) ?_
        refine wp_aload_n (pc' := 1010) rfl rfl rfl (by decide) ?_
        refine wp_iload_n (pc' := 1011) rfl rfl rfl ?_
        refine wp_iconst (a := 1) (pc' := 1012) rfl rfl rfl ?_
        refine wp_iadd (pc' := 1013) rfl rfl (by first | exact w32_id (by omega) (by omega) | rfl) ?_
        refine wp_ialoadO (pc' := 1014) rfl rfl (by decide) rfl (by omega) ?_
        refine wp_aload_n (pc' := 1015) rfl rfl rfl (by decide) ?_
        refine wp_iload_n (pc' := 1016) rfl rfl rfl ?_
        refine wp_iconst (a := 2) (pc' := 1017) rfl rfl rfl ?_
        refine wp_iadd (pc' := 1018) rfl rfl (by first | exact w32_id (by omega) (by omega) | rfl) ?_
        refine wp_ialoadO (pc' := 1019) rfl rfl (by decide) rfl (by omega) ?_
        try rw [he1]
        refine wp_call (pc' := 1022) rfl rfl rfl rfl rfl ⟨Nat.le_of_ble_eq_true rfl, Nat.le_of_ble_eq_true rfl, Nat.le_of_ble_eq_true rfl, Nat.le_of_ble_eq_true rfl, Nat.le_of_ble_eq_true rfl⟩ rfl (hM) ?_
        rintro v2 w2 ⟨hv2, he2, hI2⟩
        rw [hv2]
        clear hv2 v2
        dsimp only [Option.toList, List.cons_append, List.nil_append, List.append_nil]
        refine wp_icmp_eq (pc' := 1025) (pt := 1352) rfl rfl rfl (fun q_59 => ?_) (fun q_59 => ?_)
        · skip
          refine wp_iinc (pc' := 1355) rfl rfl rfl (inc_id (by omega) (by omega)) rfl ?_
          dsimp only [lset, lset2, List.set, List.getElem?_cons_zero, List.getElem?_cons_succ]
          refine wp_goto (pc' := 18) rfl rfl ?_
          exact ih (i + 6) w2 (by omega) (by omega) hI2 (by rw [he2, he1]; exact hw)
        · skip
          refine wp_iconst (a := 0) (pc' := 1026) rfl rfl rfl ?_
          refine wp_ret rfl rfl rfl ?_
          first | (exfalso; omega) | rfl
      refine wp_swE (29) (pt := 1027) rfl (by decide) rfl rfl (fun q_60 => ?_) (fun q_60 => ?_)
      · skip
        refine wp_aload_n (pc' := 1028) rfl rfl rfl (by decide) ?_
        refine wp_aload_n (pc' := 1029) rfl rfl rfl (by decide) ?_
        refine wp_iload_n (pc' := 1030) rfl rfl rfl ?_
        refine wp_iconst (a := 1) (pc' := 1031) rfl rfl rfl ?_
        refine wp_iadd (pc' := 1032) rfl rfl (by first | exact w32_id (by omega) (by omega) | rfl) ?_
        refine wp_ialoadO (pc' := 1033) rfl rfl (by decide) rfl (by omega) ?_
        refine wp_aload_n (pc' := 1034) rfl rfl rfl (by decide) ?_
        refine wp_iload_n (pc' := 1035) rfl rfl rfl ?_
        refine wp_iconst (a := 2) (pc' := 1036) rfl rfl rfl ?_
        refine wp_iadd (pc' := 1037) rfl rfl (by first | exact w32_id (by omega) (by omega) | rfl) ?_
        refine wp_ialoadO (pc' := 1038) rfl rfl (by decide) rfl (by omega) ?_
        refine wp_call (pc' := 1041) rfl rfl rfl rfl rfl ⟨Nat.le_of_ble_eq_true rfl, Nat.le_of_ble_eq_true rfl, Nat.le_of_ble_eq_true rfl, Nat.le_of_ble_eq_true rfl, Nat.le_of_ble_eq_true rfl⟩ rfl (p_test (d := 0) hI) ?_
        rintro v1 w1 ⟨a1, hv1, he1, hM⟩
        rw [hv1]
        clear hv1 v1
        have hlen1 : w1 (-2) (-1) = (L : Int) := by rw [he1]; exact hlen
        dsimp only [Option.toList, List.cons_append, List.nil_append, List.append_nil]
        refine wp_aload_n (pc' := 1042) rfl rfl rfl (by decide) ?_
        refine wp_aload_n (pc' := 1043) rfl rfl rfl (by decide) ?_
        refine wp_iload_n (pc' := 1044) rfl rfl rfl ?_
        refine wp_iconst (a := 1) (pc' := 1045) rfl rfl rfl ?_
        refine wp_iadd (pc' := 1046) rfl rfl (by first | exact w32_id (by omega) (by omega) | rfl) ?_
        refine wp_ialoadO (pc' := 1047) rfl rfl (by decide) rfl (by omega) ?_
        refine wp_aload_n (pc' := 1048) rfl rfl rfl (by decide) ?_
        refine wp_iload_n (pc' := 1049) rfl rfl rfl ?_
        refine wp_iconst (a := 2) (pc' := 1050) rfl rfl rfl ?_
        refine wp_iadd (pc' := 1051) rfl rfl (by first | exact w32_id (by omega) (by omega) | rfl) ?_
        refine wp_ialoadO (pc' := 1052) rfl rfl (by decide) rfl (by omega) ?_
        try rw [he1]
        refine wp_call (pc' := 1055) rfl rfl rfl rfl rfl ⟨Nat.le_of_ble_eq_true rfl, Nat.le_of_ble_eq_true rfl, Nat.le_of_ble_eq_true rfl, Nat.le_of_ble_eq_true rfl, Nat.le_of_ble_eq_true rfl⟩ rfl (hM) ?_
        rintro v2 w2 ⟨hv2, he2, hI2⟩
        rw [hv2]
        clear hv2 v2
        dsimp only [Option.toList, List.cons_append, List.nil_append, List.append_nil]
        refine wp_icmp_eq (pc' := 1058) (pt := 1352) rfl rfl rfl (fun q_61 => ?_) (fun q_61 => ?_)
        · skip
          refine wp_iinc (pc' := 1355) rfl rfl rfl (inc_id (by omega) (by omega)) rfl ?_
          dsimp only [lset, lset2, List.set, List.getElem?_cons_zero, List.getElem?_cons_succ]
          refine wp_goto (pc' := 18) rfl rfl ?_
          exact ih (i + 6) w2 (by omega) (by omega) hI2 (by rw [he2, he1]; exact hw)
        · skip
          refine wp_iconst (a := 0) (pc' := 1059) rfl rfl rfl ?_
          refine wp_ret rfl rfl rfl ?_
          first | (exfalso; omega) | rfl
      refine wp_swE (30) (pt := 1060) rfl (by decide) rfl rfl (fun q_62 => ?_) (fun q_62 => ?_)
      · skip
        refine wp_aload_n (pc' := 1061) rfl rfl rfl (by decide) ?_
        refine wp_aload_n (pc' := 1062) rfl rfl rfl (by decide) ?_
        refine wp_iload_n (pc' := 1063) rfl rfl rfl ?_
        refine wp_iconst (a := 1) (pc' := 1064) rfl rfl rfl ?_
        refine wp_iadd (pc' := 1065) rfl rfl (by first | exact w32_id (by omega) (by omega) | rfl) ?_
        refine wp_ialoadO (pc' := 1066) rfl rfl (by decide) rfl (by omega) ?_
        refine wp_aload_n (pc' := 1067) rfl rfl rfl (by decide) ?_
        refine wp_iload_n (pc' := 1068) rfl rfl rfl ?_
        refine wp_iconst (a := 2) (pc' := 1069) rfl rfl rfl ?_
        refine wp_iadd (pc' := 1070) rfl rfl (by first | exact w32_id (by omega) (by omega) | rfl) ?_
        refine wp_ialoadO (pc' := 1071) rfl rfl (by decide) rfl (by omega) ?_
        refine wp_call (pc' := 1074) rfl rfl rfl rfl rfl ⟨Nat.le_of_ble_eq_true rfl, Nat.le_of_ble_eq_true rfl, Nat.le_of_ble_eq_true rfl, Nat.le_of_ble_eq_true rfl, Nat.le_of_ble_eq_true rfl⟩ rfl (p_way (d := 0) hI) ?_
        rintro v1 w1 ⟨a1, hv1, he1, hM⟩
        rw [hv1]
        clear hv1 v1
        have hlen1 : w1 (-2) (-1) = (L : Int) := by rw [he1]; exact hlen
        dsimp only [Option.toList, List.cons_append, List.nil_append, List.append_nil]
        refine wp_aload_n (pc' := 1075) rfl rfl rfl (by decide) ?_
        refine wp_aload_n (pc' := 1076) rfl rfl rfl (by decide) ?_
        refine wp_iload_n (pc' := 1077) rfl rfl rfl ?_
        refine wp_iconst (a := 1) (pc' := 1078) rfl rfl rfl ?_
        refine wp_iadd (pc' := 1079) rfl rfl (by first | exact w32_id (by omega) (by omega) | rfl) ?_
        refine wp_ialoadO (pc' := 1080) rfl rfl (by decide) rfl (by omega) ?_
        refine wp_aload_n (pc' := 1081) rfl rfl rfl (by decide) ?_
        refine wp_iload_n (pc' := 1082) rfl rfl rfl ?_
        refine wp_iconst (a := 2) (pc' := 1083) rfl rfl rfl ?_
        refine wp_iadd (pc' := 1084) rfl rfl (by first | exact w32_id (by omega) (by omega) | rfl) ?_
        refine wp_ialoadO (pc' := 1085) rfl rfl (by decide) rfl (by omega) ?_
        try rw [he1]
        refine wp_call (pc' := 1088) rfl rfl rfl rfl rfl ⟨Nat.le_of_ble_eq_true rfl, Nat.le_of_ble_eq_true rfl, Nat.le_of_ble_eq_true rfl, Nat.le_of_ble_eq_true rfl, Nat.le_of_ble_eq_true rfl⟩ rfl (hM) ?_
        rintro v2 w2 ⟨hv2, he2, hI2⟩
        rw [hv2]
        clear hv2 v2
        dsimp only [Option.toList, List.cons_append, List.nil_append, List.append_nil]
        refine wp_icmp_eq (pc' := 1091) (pt := 1352) rfl rfl rfl (fun q_63 => ?_) (fun q_63 => ?_)
        · skip
          refine wp_iinc (pc' := 1355) rfl rfl rfl (inc_id (by omega) (by omega)) rfl ?_
          dsimp only [lset, lset2, List.set, List.getElem?_cons_zero, List.getElem?_cons_succ]
          refine wp_goto (pc' := 18) rfl rfl ?_
          exact ih (i + 6) w2 (by omega) (by omega) hI2 (by rw [he2, he1]; exact hw)
        · skip
          refine wp_iconst (a := 0) (pc' := 1092) rfl rfl rfl ?_
          refine wp_ret rfl rfl rfl ?_
          first | (exfalso; omega) | rfl
      refine wp_swE (31) (pt := 1093) rfl (by decide) rfl rfl (fun q_64 => ?_) (fun q_64 => ?_)
      · skip
        refine wp_aload_n (pc' := 1094) rfl rfl rfl (by decide) ?_
        refine wp_aload_n (pc' := 1095) rfl rfl rfl (by decide) ?_
        refine wp_iload_n (pc' := 1096) rfl rfl rfl ?_
        refine wp_iconst (a := 1) (pc' := 1097) rfl rfl rfl ?_
        refine wp_iadd (pc' := 1098) rfl rfl (by first | exact w32_id (by omega) (by omega) | rfl) ?_
        refine wp_ialoadO (pc' := 1099) rfl rfl (by decide) rfl (by omega) ?_
        refine wp_aload_n (pc' := 1100) rfl rfl rfl (by decide) ?_
        refine wp_iload_n (pc' := 1101) rfl rfl rfl ?_
        refine wp_iconst (a := 2) (pc' := 1102) rfl rfl rfl ?_
        refine wp_iadd (pc' := 1103) rfl rfl (by first | exact w32_id (by omega) (by omega) | rfl) ?_
        refine wp_ialoadO (pc' := 1104) rfl rfl (by decide) rfl (by omega) ?_
        refine wp_call (pc' := 1107) rfl rfl rfl rfl rfl ⟨Nat.le_of_ble_eq_true rfl, Nat.le_of_ble_eq_true rfl, Nat.le_of_ble_eq_true rfl, Nat.le_of_ble_eq_true rfl, Nat.le_of_ble_eq_true rfl⟩ rfl (p_parts (d := 0) hI) ?_
        rintro v1 w1 ⟨a1, hv1, he1, hM⟩
        rw [hv1]
        clear hv1 v1
        have hlen1 : w1 (-2) (-1) = (L : Int) := by rw [he1]; exact hlen
        dsimp only [Option.toList, List.cons_append, List.nil_append, List.append_nil]
        refine wp_aload_n (pc' := 1108) rfl rfl rfl (by decide) ?_
        refine wp_aload_n (pc' := 1109) rfl rfl rfl (by decide) ?_
        refine wp_iload_n (pc' := 1110) rfl rfl rfl ?_
        refine wp_iconst (a := 1) (pc' := 1111) rfl rfl rfl ?_
        refine wp_iadd (pc' := 1112) rfl rfl (by first | exact w32_id (by omega) (by omega) | rfl) ?_
        refine wp_ialoadO (pc' := 1113) rfl rfl (by decide) rfl (by omega) ?_
        refine wp_aload_n (pc' := 1114) rfl rfl rfl (by decide) ?_
        refine wp_iload_n (pc' := 1115) rfl rfl rfl ?_
        refine wp_iconst (a := 2) (pc' := 1116) rfl rfl rfl ?_
        refine wp_iadd (pc' := 1117) rfl rfl (by first | exact w32_id (by omega) (by omega) | rfl) ?_
        refine wp_ialoadO (pc' := 1118) rfl rfl (by decide) rfl (by omega) ?_
        try rw [he1]
        refine wp_call (pc' := 1121) rfl rfl rfl rfl rfl ⟨Nat.le_of_ble_eq_true rfl, Nat.le_of_ble_eq_true rfl, Nat.le_of_ble_eq_true rfl, Nat.le_of_ble_eq_true rfl, Nat.le_of_ble_eq_true rfl⟩ rfl (hM) ?_
        rintro v2 w2 ⟨hv2, he2, hI2⟩
        rw [hv2]
        clear hv2 v2
        dsimp only [Option.toList, List.cons_append, List.nil_append, List.append_nil]
        refine wp_icmp_eq (pc' := 1124) (pt := 1352) rfl rfl rfl (fun q_65 => ?_) (fun q_65 => ?_)
        · skip
          refine wp_iinc (pc' := 1355) rfl rfl rfl (inc_id (by omega) (by omega)) rfl ?_
          dsimp only [lset, lset2, List.set, List.getElem?_cons_zero, List.getElem?_cons_succ]
          refine wp_goto (pc' := 18) rfl rfl ?_
          exact ih (i + 6) w2 (by omega) (by omega) hI2 (by rw [he2, he1]; exact hw)
        · skip
          refine wp_iconst (a := 0) (pc' := 1125) rfl rfl rfl ?_
          refine wp_ret rfl rfl rfl ?_
          first | (exfalso; omega) | rfl
      refine wp_swE (32) (pt := 1126) rfl (by decide) rfl rfl (fun q_66 => ?_) (fun q_66 => ?_)
      · skip
        refine wp_aload_n (pc' := 1127) rfl rfl rfl (by decide) ?_
        refine wp_aload_n (pc' := 1128) rfl rfl rfl (by decide) ?_
        refine wp_iload_n (pc' := 1129) rfl rfl rfl ?_
        refine wp_iconst (a := 1) (pc' := 1130) rfl rfl rfl ?_
        refine wp_iadd (pc' := 1131) rfl rfl (by first | exact w32_id (by omega) (by omega) | rfl) ?_
        refine wp_ialoadO (pc' := 1132) rfl rfl (by decide) rfl (by omega) ?_
        refine wp_call (pc' := 1135) rfl rfl rfl rfl rfl ⟨Nat.le_of_ble_eq_true rfl, Nat.le_of_ble_eq_true rfl, Nat.le_of_ble_eq_true rfl, Nat.le_of_ble_eq_true rfl, Nat.le_of_ble_eq_true rfl⟩ rfl (p_duel (d := 0) hI) ?_
        rintro v1 w1 ⟨a1, hv1, he1, hM⟩
        rw [hv1]
        clear hv1 v1
        have hlen1 : w1 (-2) (-1) = (L : Int) := by rw [he1]; exact hlen
        dsimp only [Option.toList, List.cons_append, List.nil_append, List.append_nil]
        refine wp_aload_n (pc' := 1136) rfl rfl rfl (by decide) ?_
        refine wp_aload_n (pc' := 1137) rfl rfl rfl (by decide) ?_
        refine wp_iload_n (pc' := 1138) rfl rfl rfl ?_
        refine wp_iconst (a := 1) (pc' := 1139) rfl rfl rfl ?_
        refine wp_iadd (pc' := 1140) rfl rfl (by first | exact w32_id (by omega) (by omega) | rfl) ?_
        refine wp_ialoadO (pc' := 1141) rfl rfl (by decide) rfl (by omega) ?_
        try rw [he1]
        refine wp_call (pc' := 1144) rfl rfl rfl rfl rfl ⟨Nat.le_of_ble_eq_true rfl, Nat.le_of_ble_eq_true rfl, Nat.le_of_ble_eq_true rfl, Nat.le_of_ble_eq_true rfl, Nat.le_of_ble_eq_true rfl⟩ rfl (hM) ?_
        rintro v2 w2 ⟨hv2, he2, hI2⟩
        rw [hv2]
        clear hv2 v2
        dsimp only [Option.toList, List.cons_append, List.nil_append, List.append_nil]
        refine wp_icmp_eq (pc' := 1147) (pt := 1352) rfl rfl rfl (fun q_67 => ?_) (fun q_67 => ?_)
        · skip
          refine wp_iinc (pc' := 1355) rfl rfl rfl (inc_id (by omega) (by omega)) rfl ?_
          dsimp only [lset, lset2, List.set, List.getElem?_cons_zero, List.getElem?_cons_succ]
          refine wp_goto (pc' := 18) rfl rfl ?_
          exact ih (i + 6) w2 (by omega) (by omega) hI2 (by rw [he2, he1]; exact hw)
        · skip
          refine wp_iconst (a := 0) (pc' := 1148) rfl rfl rfl ?_
          refine wp_ret rfl rfl rfl ?_
          first | (exfalso; omega) | rfl
      refine wp_swE (33) (pt := 1149) rfl (by decide) rfl rfl (fun q_68 => ?_) (fun q_68 => ?_)
      · skip
        refine wp_aload_n (pc' := 1150) rfl rfl rfl (by decide) ?_
        refine wp_aload_n (pc' := 1151) rfl rfl rfl (by decide) ?_
        refine wp_iload_n (pc' := 1152) rfl rfl rfl ?_
        refine wp_iconst (a := 1) (pc' := 1153) rfl rfl rfl ?_
        refine wp_iadd (pc' := 1154) rfl rfl (by first | exact w32_id (by omega) (by omega) | rfl) ?_
        refine wp_ialoadO (pc' := 1155) rfl rfl (by decide) rfl (by omega) ?_
        refine wp_aload_n (pc' := 1156) rfl rfl rfl (by decide) ?_
        refine wp_iload_n (pc' := 1157) rfl rfl rfl ?_
        refine wp_iconst (a := 2) (pc' := 1158) rfl rfl rfl ?_
        refine wp_iadd (pc' := 1159) rfl rfl (by first | exact w32_id (by omega) (by omega) | rfl) ?_
        refine wp_ialoadO (pc' := 1160) rfl rfl (by decide) rfl (by omega) ?_
        refine wp_call (pc' := 1163) rfl rfl rfl rfl rfl ⟨Nat.le_of_ble_eq_true rfl, Nat.le_of_ble_eq_true rfl, Nat.le_of_ble_eq_true rfl, Nat.le_of_ble_eq_true rfl, Nat.le_of_ble_eq_true rfl⟩ rfl (p_odds (d := 0) hI) ?_
        rintro v1 w1 ⟨a1, hv1, he1, hM⟩
        rw [hv1]
        clear hv1 v1
        have hlen1 : w1 (-2) (-1) = (L : Int) := by rw [he1]; exact hlen
        dsimp only [Option.toList, List.cons_append, List.nil_append, List.append_nil]
        refine wp_aload_n (pc' := 1164) rfl rfl rfl (by decide) ?_
        refine wp_aload_n (pc' := 1165) rfl rfl rfl (by decide) ?_
        refine wp_iload_n (pc' := 1166) rfl rfl rfl ?_
        refine wp_iconst (a := 1) (pc' := 1167) rfl rfl rfl ?_
        refine wp_iadd (pc' := 1168) rfl rfl (by first | exact w32_id (by omega) (by omega) | rfl) ?_
        refine wp_ialoadO (pc' := 1169) rfl rfl (by decide) rfl (by omega) ?_
        refine wp_aload_n (pc' := 1170) rfl rfl rfl (by decide) ?_
        refine wp_iload_n (pc' := 1171) rfl rfl rfl ?_
        refine wp_iconst (a := 2) (pc' := 1172) rfl rfl rfl ?_
        refine wp_iadd (pc' := 1173) rfl rfl (by first | exact w32_id (by omega) (by omega) | rfl) ?_
        refine wp_ialoadO (pc' := 1174) rfl rfl (by decide) rfl (by omega) ?_
        try rw [he1]
        refine wp_call (pc' := 1177) rfl rfl rfl rfl rfl ⟨Nat.le_of_ble_eq_true rfl, Nat.le_of_ble_eq_true rfl, Nat.le_of_ble_eq_true rfl, Nat.le_of_ble_eq_true rfl, Nat.le_of_ble_eq_true rfl⟩ rfl (hM) ?_
        rintro v2 w2 ⟨hv2, he2, hI2⟩
        rw [hv2]
        clear hv2 v2
        dsimp only [Option.toList, List.cons_append, List.nil_append, List.append_nil]
        refine wp_icmp_eq (pc' := 1180) (pt := 1352) rfl rfl rfl (fun q_69 => ?_) (fun q_69 => ?_)
        · skip
          refine wp_iinc (pc' := 1355) rfl rfl rfl (inc_id (by omega) (by omega)) rfl ?_
          dsimp only [lset, lset2, List.set, List.getElem?_cons_zero, List.getElem?_cons_succ]
          refine wp_goto (pc' := 18) rfl rfl ?_
          exact ih (i + 6) w2 (by omega) (by omega) hI2 (by rw [he2, he1]; exact hw)
        · skip
          refine wp_iconst (a := 0) (pc' := 1181) rfl rfl rfl ?_
          refine wp_ret rfl rfl rfl ?_
          first | (exfalso; omega) | rfl
      refine wp_swE (34) (pt := 1182) rfl (by decide) rfl rfl (fun q_70 => ?_) (fun q_70 => ?_)
      · skip
        refine wp_aload_n (pc' := 1183) rfl rfl rfl (by decide) ?_
        refine wp_aload_n (pc' := 1184) rfl rfl rfl (by decide) ?_
        refine wp_iload_n (pc' := 1185) rfl rfl rfl ?_
        refine wp_iconst (a := 1) (pc' := 1186) rfl rfl rfl ?_
        refine wp_iadd (pc' := 1187) rfl rfl (by first | exact w32_id (by omega) (by omega) | rfl) ?_
        refine wp_ialoadO (pc' := 1188) rfl rfl (by decide) rfl (by omega) ?_
        refine wp_call (pc' := 1191) rfl rfl rfl rfl rfl ⟨Nat.le_of_ble_eq_true rfl, Nat.le_of_ble_eq_true rfl, Nat.le_of_ble_eq_true rfl, Nat.le_of_ble_eq_true rfl, Nat.le_of_ble_eq_true rfl⟩ rfl (p_mid (d := 0) hI) ?_
        rintro v1 w1 ⟨a1, hv1, he1, hM⟩
        rw [hv1]
        clear hv1 v1
        have hlen1 : w1 (-2) (-1) = (L : Int) := by rw [he1]; exact hlen
        dsimp only [Option.toList, List.cons_append, List.nil_append, List.append_nil]
        refine wp_aload_n (pc' := 1192) rfl rfl rfl (by decide) ?_
        refine wp_aload_n (pc' := 1193) rfl rfl rfl (by decide) ?_
        refine wp_iload_n (pc' := 1194) rfl rfl rfl ?_
        refine wp_iconst (a := 1) (pc' := 1195) rfl rfl rfl ?_
        refine wp_iadd (pc' := 1196) rfl rfl (by first | exact w32_id (by omega) (by omega) | rfl) ?_
        refine wp_ialoadO (pc' := 1197) rfl rfl (by decide) rfl (by omega) ?_
        try rw [he1]
        refine wp_call (pc' := 1200) rfl rfl rfl rfl rfl ⟨Nat.le_of_ble_eq_true rfl, Nat.le_of_ble_eq_true rfl, Nat.le_of_ble_eq_true rfl, Nat.le_of_ble_eq_true rfl, Nat.le_of_ble_eq_true rfl⟩ rfl (hM) ?_
        rintro v2 w2 ⟨hv2, he2, hI2⟩
        rw [hv2]
        clear hv2 v2
        dsimp only [Option.toList, List.cons_append, List.nil_append, List.append_nil]
        refine wp_icmp_eq (pc' := 1203) (pt := 1352) rfl rfl rfl (fun q_71 => ?_) (fun q_71 => ?_)
        · skip
          refine wp_iinc (pc' := 1355) rfl rfl rfl (inc_id (by omega) (by omega)) rfl ?_
          dsimp only [lset, lset2, List.set, List.getElem?_cons_zero, List.getElem?_cons_succ]
          refine wp_goto (pc' := 18) rfl rfl ?_
          exact ih (i + 6) w2 (by omega) (by omega) hI2 (by rw [he2, he1]; exact hw)
        · skip
          refine wp_iconst (a := 0) (pc' := 1204) rfl rfl rfl ?_
          refine wp_ret rfl rfl rfl ?_
          first | (exfalso; omega) | rfl
      refine wp_swE (35) (pt := 1205) rfl (by decide) rfl rfl (fun q_72 => ?_) (fun q_72 => ?_)
      · skip
        refine wp_aload_n (pc' := 1206) rfl rfl rfl (by decide) ?_
        refine wp_aload_n (pc' := 1207) rfl rfl rfl (by decide) ?_
        refine wp_iload_n (pc' := 1208) rfl rfl rfl ?_
        refine wp_iconst (a := 1) (pc' := 1209) rfl rfl rfl ?_
        refine wp_iadd (pc' := 1210) rfl rfl (by first | exact w32_id (by omega) (by omega) | rfl) ?_
        refine wp_ialoadO (pc' := 1211) rfl rfl (by decide) rfl (by omega) ?_
        refine wp_aload_n (pc' := 1212) rfl rfl rfl (by decide) ?_
        refine wp_iload_n (pc' := 1213) rfl rfl rfl ?_
        refine wp_iconst (a := 2) (pc' := 1214) rfl rfl rfl ?_
        refine wp_iadd (pc' := 1215) rfl rfl (by first | exact w32_id (by omega) (by omega) | rfl) ?_
        refine wp_ialoadO (pc' := 1216) rfl rfl (by decide) rfl (by omega) ?_
        refine wp_call (pc' := 1219) rfl rfl rfl rfl rfl ⟨Nat.le_of_ble_eq_true rfl, Nat.le_of_ble_eq_true rfl, Nat.le_of_ble_eq_true rfl, Nat.le_of_ble_eq_true rfl, Nat.le_of_ble_eq_true rfl⟩ rfl (p_lots (d := 0) hI) ?_
        rintro v1 w1 ⟨a1, hv1, he1, hM⟩
        rw [hv1]
        clear hv1 v1
        have hlen1 : w1 (-2) (-1) = (L : Int) := by rw [he1]; exact hlen
        dsimp only [Option.toList, List.cons_append, List.nil_append, List.append_nil]
        refine wp_aload_n (pc' := 1220) rfl rfl rfl (by decide) ?_
        refine wp_aload_n (pc' := 1221) rfl rfl rfl (by decide) ?_
        refine wp_iload_n (pc' := 1222) rfl rfl rfl ?_
        refine wp_iconst (a := 1) (pc' := 1223) rfl rfl rfl ?_
        refine wp_iadd (pc' := 1224) rfl rfl (by first | exact w32_id (by omega) (by omega) | rfl) ?_
        refine wp_ialoadO (pc' := 1225) rfl rfl (by decide) rfl (by omega) ?_
        refine wp_aload_n (pc' := 1226) rfl rfl rfl (by decide) ?_
        refine wp_iload_n (pc' := 1227) rfl rfl rfl ?_
        refine wp_iconst (a := 2) (pc' := 1228) rfl rfl rfl ?_
        refine wp_iadd (pc' := 1229) rfl rfl (by first | exact w32_id (by omega) (by omega) | rfl) ?_
        refine wp_ialoadO (pc' := 1230) rfl rfl (by decide) rfl (by omega) ?_
        try rw [he1]
        refine wp_call (pc' := 1233) rfl rfl rfl rfl rfl ⟨Nat.le_of_ble_eq_true rfl, Nat.le_of_ble_eq_true rfl, Nat.le_of_ble_eq_true rfl, Nat.le_of_ble_eq_true rfl, Nat.le_of_ble_eq_true rfl⟩ rfl (hM) ?_
        rintro v2 w2 ⟨hv2, he2, hI2⟩
        rw [hv2]
        clear hv2 v2
        dsimp only [Option.toList, List.cons_append, List.nil_append, List.append_nil]
        refine wp_icmp_eq (pc' := 1236) (pt := 1352) rfl rfl rfl (fun q_73 => ?_) (fun q_73 => ?_)
        · skip
          refine wp_iinc (pc' := 1355) rfl rfl rfl (inc_id (by omega) (by omega)) rfl ?_
          dsimp only [lset, lset2, List.set, List.getElem?_cons_zero, List.getElem?_cons_succ]
          refine wp_goto (pc' := 18) rfl rfl ?_
          exact ih (i + 6) w2 (by omega) (by omega) hI2 (by rw [he2, he1]; exact hw)
        · skip
          refine wp_iconst (a := 0) (pc' := 1237) rfl rfl rfl ?_
          refine wp_ret rfl rfl rfl ?_
          first | (exfalso; omega) | rfl
      refine wp_swE (36) (pt := 1238) rfl (by decide) rfl rfl (fun q_74 => ?_) (fun q_74 => ?_)
      · skip
        refine wp_aload_n (pc' := 1239) rfl rfl rfl (by decide) ?_
        refine wp_call (pc' := 1242) rfl rfl rfl rfl rfl ⟨Nat.le_of_ble_eq_true rfl, Nat.le_of_ble_eq_true rfl, Nat.le_of_ble_eq_true rfl, Nat.le_of_ble_eq_true rfl, Nat.le_of_ble_eq_true rfl⟩ rfl (p_asked (d := 0) hI) ?_
        rintro v1 w1 ⟨a1, hv1, he1, hM⟩
        rw [hv1]
        clear hv1 v1
        have hlen1 : w1 (-2) (-1) = (L : Int) := by rw [he1]; exact hlen
        dsimp only [Option.toList, List.cons_append, List.nil_append, List.append_nil]
        refine wp_aload_n (pc' := 1243) rfl rfl rfl (by decide) ?_
        try rw [he1]
        refine wp_call (pc' := 1246) rfl rfl rfl rfl rfl ⟨Nat.le_of_ble_eq_true rfl, Nat.le_of_ble_eq_true rfl, Nat.le_of_ble_eq_true rfl, Nat.le_of_ble_eq_true rfl, Nat.le_of_ble_eq_true rfl⟩ rfl (hM) ?_
        rintro v2 w2 ⟨hv2, he2, hI2⟩
        rw [hv2]
        clear hv2 v2
        dsimp only [Option.toList, List.cons_append, List.nil_append, List.append_nil]
        refine wp_icmp_eq (pc' := 1249) (pt := 1352) rfl rfl rfl (fun q_75 => ?_) (fun q_75 => ?_)
        · skip
          refine wp_iinc (pc' := 1355) rfl rfl rfl (inc_id (by omega) (by omega)) rfl ?_
          dsimp only [lset, lset2, List.set, List.getElem?_cons_zero, List.getElem?_cons_succ]
          refine wp_goto (pc' := 18) rfl rfl ?_
          exact ih (i + 6) w2 (by omega) (by omega) hI2 (by rw [he2, he1]; exact hw)
        · skip
          refine wp_iconst (a := 0) (pc' := 1250) rfl rfl rfl ?_
          refine wp_ret rfl rfl rfl ?_
          first | (exfalso; omega) | rfl
      refine wp_swE (37) (pt := 1251) rfl (by decide) rfl rfl (fun q_76 => ?_) (fun q_76 => ?_)
      · skip
        refine wp_aload_n (pc' := 1252) rfl rfl rfl (by decide) ?_
        refine wp_call (pc' := 1255) rfl rfl rfl rfl rfl ⟨Nat.le_of_ble_eq_true rfl, Nat.le_of_ble_eq_true rfl, Nat.le_of_ble_eq_true rfl, Nat.le_of_ble_eq_true rfl, Nat.le_of_ble_eq_true rfl⟩ rfl (p_upper (d := 0) hI) ?_
        rintro v1 w1 ⟨a1, hv1, he1, hM⟩
        rw [hv1]
        clear hv1 v1
        have hlen1 : w1 (-2) (-1) = (L : Int) := by rw [he1]; exact hlen
        dsimp only [Option.toList, List.cons_append, List.nil_append, List.append_nil]
        refine wp_aload_n (pc' := 1256) rfl rfl rfl (by decide) ?_
        try rw [he1]
        refine wp_call (pc' := 1259) rfl rfl rfl rfl rfl ⟨Nat.le_of_ble_eq_true rfl, Nat.le_of_ble_eq_true rfl, Nat.le_of_ble_eq_true rfl, Nat.le_of_ble_eq_true rfl, Nat.le_of_ble_eq_true rfl⟩ rfl (hM) ?_
        rintro v2 w2 ⟨hv2, he2, hI2⟩
        rw [hv2]
        clear hv2 v2
        dsimp only [Option.toList, List.cons_append, List.nil_append, List.append_nil]
        refine wp_lcmp (pc' := 1260) rfl rfl rfl ?_
        rw [lCmp_self]
        refine wp_if_eq (pc' := 1263) (pt := 1352) rfl rfl rfl (fun q_77 => ?_) (fun q_77 => ?_)
        · skip
          refine wp_iinc (pc' := 1355) rfl rfl rfl (inc_id (by omega) (by omega)) rfl ?_
          dsimp only [lset, lset2, List.set, List.getElem?_cons_zero, List.getElem?_cons_succ]
          refine wp_goto (pc' := 18) rfl rfl ?_
          exact ih (i + 6) w2 (by omega) (by omega) hI2 (by rw [he2, he1]; exact hw)
        · skip
          refine wp_iconst (a := 0) (pc' := 1264) rfl rfl rfl ?_
          refine wp_ret rfl rfl rfl ?_
          first | (exfalso; omega) | rfl
      refine wp_swE (38) (pt := 1265) rfl (by decide) rfl rfl (fun q_78 => ?_) (fun q_78 => ?_)
      · skip
        refine wp_aload_n (pc' := 1266) rfl rfl rfl (by decide) ?_
        refine wp_call (pc' := 1269) rfl rfl rfl rfl rfl ⟨Nat.le_of_ble_eq_true rfl, Nat.le_of_ble_eq_true rfl, Nat.le_of_ble_eq_true rfl, Nat.le_of_ble_eq_true rfl, Nat.le_of_ble_eq_true rfl⟩ rfl (p_lower (d := 0) hI) ?_
        rintro v1 w1 ⟨a1, hv1, he1, hM⟩
        rw [hv1]
        clear hv1 v1
        have hlen1 : w1 (-2) (-1) = (L : Int) := by rw [he1]; exact hlen
        dsimp only [Option.toList, List.cons_append, List.nil_append, List.append_nil]
        refine wp_aload_n (pc' := 1270) rfl rfl rfl (by decide) ?_
        try rw [he1]
        refine wp_call (pc' := 1273) rfl rfl rfl rfl rfl ⟨Nat.le_of_ble_eq_true rfl, Nat.le_of_ble_eq_true rfl, Nat.le_of_ble_eq_true rfl, Nat.le_of_ble_eq_true rfl, Nat.le_of_ble_eq_true rfl⟩ rfl (hM) ?_
        rintro v2 w2 ⟨hv2, he2, hI2⟩
        rw [hv2]
        clear hv2 v2
        dsimp only [Option.toList, List.cons_append, List.nil_append, List.append_nil]
        refine wp_lcmp (pc' := 1274) rfl rfl rfl ?_
        rw [lCmp_self]
        refine wp_if_eq (pc' := 1277) (pt := 1352) rfl rfl rfl (fun q_79 => ?_) (fun q_79 => ?_)
        · skip
          refine wp_iinc (pc' := 1355) rfl rfl rfl (inc_id (by omega) (by omega)) rfl ?_
          dsimp only [lset, lset2, List.set, List.getElem?_cons_zero, List.getElem?_cons_succ]
          refine wp_goto (pc' := 18) rfl rfl ?_
          exact ih (i + 6) w2 (by omega) (by omega) hI2 (by rw [he2, he1]; exact hw)
        · skip
          refine wp_iconst (a := 0) (pc' := 1278) rfl rfl rfl ?_
          refine wp_ret rfl rfl rfl ?_
          first | (exfalso; omega) | rfl
      refine wp_swE (39) (pt := 1279) rfl (by decide) rfl rfl (fun q_80 => ?_) (fun q_80 => ?_)
      · skip
        refine wp_aload_n (pc' := 1280) rfl rfl rfl (by decide) ?_
        refine wp_aload_n (pc' := 1281) rfl rfl rfl (by decide) ?_
        refine wp_iload_n (pc' := 1282) rfl rfl rfl ?_
        refine wp_iconst (a := 1) (pc' := 1283) rfl rfl rfl ?_
        refine wp_iadd (pc' := 1284) rfl rfl (by first | exact w32_id (by omega) (by omega) | rfl) ?_
        refine wp_ialoadO (pc' := 1285) rfl rfl (by decide) rfl (by omega) ?_
        refine wp_call (pc' := 1288) rfl rfl rfl rfl rfl ⟨Nat.le_of_ble_eq_true rfl, Nat.le_of_ble_eq_true rfl, Nat.le_of_ble_eq_true rfl, Nat.le_of_ble_eq_true rfl, Nat.le_of_ble_eq_true rfl⟩ rfl (p_count (d := 0) hI) ?_
        rintro v1 w1 ⟨a1, hv1, he1, hM⟩
        rw [hv1]
        clear hv1 v1
        have hlen1 : w1 (-2) (-1) = (L : Int) := by rw [he1]; exact hlen
        dsimp only [Option.toList, List.cons_append, List.nil_append, List.append_nil]
        refine wp_aload_n (pc' := 1289) rfl rfl rfl (by decide) ?_
        refine wp_aload_n (pc' := 1290) rfl rfl rfl (by decide) ?_
        refine wp_iload_n (pc' := 1291) rfl rfl rfl ?_
        refine wp_iconst (a := 1) (pc' := 1292) rfl rfl rfl ?_
        refine wp_iadd (pc' := 1293) rfl rfl (by first | exact w32_id (by omega) (by omega) | rfl) ?_
        refine wp_ialoadO (pc' := 1294) rfl rfl (by decide) rfl (by omega) ?_
        try rw [he1]
        refine wp_call (pc' := 1297) rfl rfl rfl rfl rfl ⟨Nat.le_of_ble_eq_true rfl, Nat.le_of_ble_eq_true rfl, Nat.le_of_ble_eq_true rfl, Nat.le_of_ble_eq_true rfl, Nat.le_of_ble_eq_true rfl⟩ rfl (hM) ?_
        rintro v2 w2 ⟨hv2, he2, hI2⟩
        rw [hv2]
        clear hv2 v2
        dsimp only [Option.toList, List.cons_append, List.nil_append, List.append_nil]
        refine wp_icmp_eq (pc' := 1300) (pt := 1352) rfl rfl rfl (fun q_81 => ?_) (fun q_81 => ?_)
        · skip
          refine wp_iinc (pc' := 1355) rfl rfl rfl (inc_id (by omega) (by omega)) rfl ?_
          dsimp only [lset, lset2, List.set, List.getElem?_cons_zero, List.getElem?_cons_succ]
          refine wp_goto (pc' := 18) rfl rfl ?_
          exact ih (i + 6) w2 (by omega) (by omega) hI2 (by rw [he2, he1]; exact hw)
        · skip
          refine wp_iconst (a := 0) (pc' := 1301) rfl rfl rfl ?_
          refine wp_ret rfl rfl rfl ?_
          first | (exfalso; omega) | rfl
      refine wp_swE (40) (pt := 1302) rfl (by decide) rfl rfl (fun q_82 => ?_) (fun q_82 => ?_)
      · skip
        refine wp_aload_n (pc' := 1303) rfl rfl rfl (by decide) ?_
        refine wp_call (pc' := 1306) rfl rfl rfl rfl rfl ⟨Nat.le_of_ble_eq_true rfl, Nat.le_of_ble_eq_true rfl, Nat.le_of_ble_eq_true rfl, Nat.le_of_ble_eq_true rfl, Nat.le_of_ble_eq_true rfl⟩ rfl (p_finding (d := 0) hI) ?_
        rintro v1 w1 ⟨a1, hv1, he1, hM⟩
        rw [hv1]
        clear hv1 v1
        have hlen1 : w1 (-2) (-1) = (L : Int) := by rw [he1]; exact hlen
        dsimp only [Option.toList, List.cons_append, List.nil_append, List.append_nil]
        refine wp_aload_n (pc' := 1307) rfl rfl rfl (by decide) ?_
        try rw [he1]
        refine wp_call (pc' := 1310) rfl rfl rfl rfl rfl ⟨Nat.le_of_ble_eq_true rfl, Nat.le_of_ble_eq_true rfl, Nat.le_of_ble_eq_true rfl, Nat.le_of_ble_eq_true rfl, Nat.le_of_ble_eq_true rfl⟩ rfl (hM) ?_
        rintro v2 w2 ⟨hv2, he2, hI2⟩
        rw [hv2]
        clear hv2 v2
        dsimp only [Option.toList, List.cons_append, List.nil_append, List.append_nil]
        refine wp_icmp_eq (pc' := 1313) (pt := 1352) rfl rfl rfl (fun q_83 => ?_) (fun q_83 => ?_)
        · skip
          refine wp_iinc (pc' := 1355) rfl rfl rfl (inc_id (by omega) (by omega)) rfl ?_
          dsimp only [lset, lset2, List.set, List.getElem?_cons_zero, List.getElem?_cons_succ]
          refine wp_goto (pc' := 18) rfl rfl ?_
          exact ih (i + 6) w2 (by omega) (by omega) hI2 (by rw [he2, he1]; exact hw)
        · skip
          refine wp_iconst (a := 0) (pc' := 1314) rfl rfl rfl ?_
          refine wp_ret rfl rfl rfl ?_
          first | (exfalso; omega) | rfl
      refine wp_swE (41) (pt := 1315) rfl (by decide) rfl rfl (fun q_84 => ?_) (fun q_84 => ?_)
      · skip
        refine wp_aload_n (pc' := 1316) rfl rfl rfl (by decide) ?_
        refine wp_aload_n (pc' := 1317) rfl rfl rfl (by decide) ?_
        refine wp_iload_n (pc' := 1318) rfl rfl rfl ?_
        refine wp_iconst (a := 1) (pc' := 1319) rfl rfl rfl ?_
        refine wp_iadd (pc' := 1320) rfl rfl (by first | exact w32_id (by omega) (by omega) | rfl) ?_
        refine wp_ialoadO (pc' := 1321) rfl rfl (by decide) rfl (by omega) ?_
        refine wp_call (pc' := 1324) rfl rfl rfl rfl rfl ⟨Nat.le_of_ble_eq_true rfl, Nat.le_of_ble_eq_true rfl, Nat.le_of_ble_eq_true rfl, Nat.le_of_ble_eq_true rfl, Nat.le_of_ble_eq_true rfl⟩ rfl (p_findings (d := 0) hI) ?_
        rintro v1 w1 ⟨a1, hv1, he1, hM⟩
        rw [hv1]
        clear hv1 v1
        have hlen1 : w1 (-2) (-1) = (L : Int) := by rw [he1]; exact hlen
        dsimp only [Option.toList, List.cons_append, List.nil_append, List.append_nil]
        refine wp_aload_n (pc' := 1325) rfl rfl rfl (by decide) ?_
        refine wp_aload_n (pc' := 1326) rfl rfl rfl (by decide) ?_
        refine wp_iload_n (pc' := 1327) rfl rfl rfl ?_
        refine wp_iconst (a := 1) (pc' := 1328) rfl rfl rfl ?_
        refine wp_iadd (pc' := 1329) rfl rfl (by first | exact w32_id (by omega) (by omega) | rfl) ?_
        refine wp_ialoadO (pc' := 1330) rfl rfl (by decide) rfl (by omega) ?_
        try rw [he1]
        refine wp_call (pc' := 1333) rfl rfl rfl rfl rfl ⟨Nat.le_of_ble_eq_true rfl, Nat.le_of_ble_eq_true rfl, Nat.le_of_ble_eq_true rfl, Nat.le_of_ble_eq_true rfl, Nat.le_of_ble_eq_true rfl⟩ rfl (hM) ?_
        rintro v2 w2 ⟨hv2, he2, hI2⟩
        rw [hv2]
        clear hv2 v2
        dsimp only [Option.toList, List.cons_append, List.nil_append, List.append_nil]
        refine wp_icmp_eq (pc' := 1336) (pt := 1352) rfl rfl rfl (fun q_85 => ?_) (fun q_85 => ?_)
        · skip
          refine wp_iinc (pc' := 1355) rfl rfl rfl (inc_id (by omega) (by omega)) rfl ?_
          dsimp only [lset, lset2, List.set, List.getElem?_cons_zero, List.getElem?_cons_succ]
          refine wp_goto (pc' := 18) rfl rfl ?_
          exact ih (i + 6) w2 (by omega) (by omega) hI2 (by rw [he2, he1]; exact hw)
        · skip
          refine wp_iconst (a := 0) (pc' := 1337) rfl rfl rfl ?_
          refine wp_ret rfl rfl rfl ?_
          first | (exfalso; omega) | rfl
      refine wp_swE (42) (pt := 1338) rfl (by decide) rfl rfl (fun q_86 => ?_) (fun q_86 => ?_)
      · skip
        refine wp_aload_n (pc' := 1339) rfl rfl rfl (by decide) ?_
        refine wp_call (pc' := 1342) rfl rfl rfl rfl rfl ⟨Nat.le_of_ble_eq_true rfl, Nat.le_of_ble_eq_true rfl, Nat.le_of_ble_eq_true rfl, Nat.le_of_ble_eq_true rfl, Nat.le_of_ble_eq_true rfl⟩ rfl (p_digest (d := 0) hI) ?_
        rintro v1 w1 ⟨a1, hv1, he1, hM⟩
        rw [hv1]
        clear hv1 v1
        have hlen1 : w1 (-2) (-1) = (L : Int) := by rw [he1]; exact hlen
        dsimp only [Option.toList, List.cons_append, List.nil_append, List.append_nil]
        refine wp_aload_n (pc' := 1343) rfl rfl rfl (by decide) ?_
        try rw [he1]
        refine wp_call (pc' := 1346) rfl rfl rfl rfl rfl ⟨Nat.le_of_ble_eq_true rfl, Nat.le_of_ble_eq_true rfl, Nat.le_of_ble_eq_true rfl, Nat.le_of_ble_eq_true rfl, Nat.le_of_ble_eq_true rfl⟩ rfl (hM) ?_
        rintro v2 w2 ⟨hv2, he2, hI2⟩
        rw [hv2]
        clear hv2 v2
        dsimp only [Option.toList, List.cons_append, List.nil_append, List.append_nil]
        refine wp_lcmp (pc' := 1347) rfl rfl rfl ?_
        rw [lCmp_self]
        refine wp_if_eq (pc' := 1350) (pt := 1352) rfl rfl rfl (fun q_87 => ?_) (fun q_87 => ?_)
        · skip
          refine wp_iinc (pc' := 1355) rfl rfl rfl (inc_id (by omega) (by omega)) rfl ?_
          dsimp only [lset, lset2, List.set, List.getElem?_cons_zero, List.getElem?_cons_succ]
          refine wp_goto (pc' := 18) rfl rfl ?_
          exact ih (i + 6) w2 (by omega) (by omega) hI2 (by rw [he2, he1]; exact hw)
        · skip
          refine wp_iconst (a := 0) (pc' := 1351) rfl rfl rfl ?_
          refine wp_ret rfl rfl rfl ?_
          first | (exfalso; omega) | rfl
      refine wp_swOut (pc' := 1352) rfl (by omega) rfl ?_
      refine wp_iinc (pc' := 1355) rfl rfl rfl (inc_id (by omega) (by omega)) rfl ?_
      dsimp only [lset, lset2, List.set, List.getElem?_cons_zero, List.getElem?_cons_succ]
      refine wp_goto (pc' := 18) rfl rfl ?_
      exact ih (i + 6) w (by omega) (by omega) hI hw
theorem pure_main : PureMain := pure_of (fun L xs w hL hI hw => l_law hL 65 0 w (by decide) (by omega) hI hw)
