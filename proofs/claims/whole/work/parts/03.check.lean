/-! the rows are what the bytes decode to, and what they link to stands in the tables: decided by the kernel, method by method -/
def tb (p : Nat) (w : Cond) : Bool := decide (lw_tbl[p]? = some w)
def FT (ci k : Nat) : String × String × String × Bool := ((vwCl.getD ci ("", fun _ => ("", "", "", false), 0)).2.1 k)
def NT (ci : Nat) : Nat := (vwCl.getD ci ("", fun _ => ("", "", "", false), 0)).2.2
def CN (ci : Nat) : String := (vwCl.getD ci ("", fun _ => ("", "", "", false), 0)).1
def yOf (j : Nat) : MethodName := YT.getD j ⟨"", "", ""⟩
def cOf (j : Nat) : ByteArray := CT.getD j ⟨#[]⟩
def oOf (j : Nat) : String := OT.getD j ""
def retTy (k : Nat) : Option FieldType := match k with
  | 1 => some .int
  | 2 => some .boolean
  | 3 => some .long
  | _ => none
def lenOf (ins : Instr) (len : Nat) : Nat := match ins with
  | .aload _ => 2 | .iload _ => 2 | .lload _ => 2 | .istore _ => 2 | .lstore _ => 2 | .iinc _ _ => 3 | .bipush _ => 2 | .sipush _ => 3 | .ldc _ => 2 | .ldc_w _ => 3 | .ldc2_w _ => 3
  | .goto _ => 3 | .ifCond _ _ => 3 | .if_icmp _ _ => 3 | .ifnull _ => 3 | .getfield _ => 3 | .putfield _ => 3 | .getstatic _ => 3 | .invokevirtual _ => 3 | .invokestatic _ => 3 | .invokespecial _ => 3
  | .new _ => 3 | .newarray _ => 2 | .anewarray _ => 3 | .multianewarray _ _ => 4 | .tableswitch _ _ _ _ => len | _ => 1
def rnF (x : Int) : String × String × String × String := if x = -3 then ("VotedHill$Reader", "KIND_LETTERS", "[C", "") else if x = -4 then ("VotedHill$Land", "WIDER_KIND", "[I", "") else ("VotedHill$Land", "AGAINST", "[I", "")
def okWord (mi : Nat) (own : String) (pc : Nat) (ins : Instr) (x : Int) (pos : Nat) : Bool := match ins with
  | .getfield idx => decide ((x % 100).toNat < NT (x / 100).toNat ∧ (x / 100).toNat < 11 ∧ 0 ≤ x) && tb pos (.fieldLink own idx (FT (x / 100).toNat (x % 100).toNat).1 (FT (x / 100).toNat (x % 100).toNat).2.1 (FT (x / 100).toNat (x % 100).toNat).2.2.1)
  | .putfield idx => decide ((x % 100).toNat < NT (x / 100).toNat ∧ (x / 100).toNat < 11 ∧ 0 ≤ x) && tb pos (.fieldLink own idx (FT (x / 100).toNat (x % 100).toNat).1 (FT (x / 100).toNat (x % 100).toNat).2.1 (FT (x / 100).toNat (x % 100).toNat).2.2.1)
      && (!(FT (x / 100).toNat (x % 100).toNat).2.2.2 || (decide (mKind mi = 2) && decide ((FT (x / 100).toNat (x % 100).toNat).1 = own)))
  | .getstatic idx => decide (x = -3 ∨ x = -4 ∨ x = -5) && tb pos (.fieldLink own idx (rnF x).1 (rnF x).2.1 (rnF x).2.2.1)
  | .invokevirtual idx => decide (0 ≤ x ∧ mKind x.toNat = 1) && tb pos (.methodLink own idx (yOf x.toNat))
  | .invokestatic idx => if x = -2 then tb pos (.methodLink own idx arraycopyName) else if x = -3 then tb pos (.methodLink own idx Lib.Math.max.name) else if x = -4 then tb pos (.methodLink own idx Lib.Math.min.name)
      else if x = -5 then tb pos (.methodLink own idx Lib.Math.abs.name) else decide (0 ≤ x ∧ mKind x.toNat = 0) && tb pos (.methodLink own idx (yOf x.toNat))
  | .invokespecial idx => if x = -1 then tb pos (.methodLink own idx Lib.objectInit) else decide (0 ≤ x ∧ mKind x.toNat = 2) && (tb pos (.methodLink own idx (yOf x.toNat)) || tb pos (.methodLinkNest own idx (yOf x.toNat) "VotedHill"))
  | .goto off => decide ((pc : Int) + off = x ∧ 0 ≤ x)
  | .ifCond _ off => decide ((pc : Int) + off = x ∧ 0 ≤ x)
  | .if_icmp _ off => decide ((pc : Int) + off = x ∧ 0 ≤ x)
  | .ldc idx => tb pos (.constant own idx (Int32.ofInt x))
  | .ldc_w idx => tb pos (.constant own idx (Int32.ofInt x))
  | .ldc2_w idx => tb pos (.constantLong own idx (Int64.ofInt x))
  | .tableswitch dflt _ _ offs => decide (0 ≤ (pc : Int) + dflt) && offs.toList.all (fun o => decide (0 ≤ (pc : Int) + o))
  | .new idx => decide (0 ≤ x ∧ x.toNat < 11) && tb pos (.classLink own idx (CN x.toNat))
  | .anewarray idx => (decide (x = 5) && tb pos (.classLink own idx "VotedHill$Strip")) || (decide (x = 6) && tb pos (.classLink own idx "VotedHill$Land"))
  | .multianewarray idx _ => tb pos (.classLink own idx "[[I")
  | .newarray t => tb pos (.arrayClass (newarray.typeOf t))
  | _ => true
def okRow (mi : Nat) (own : String) (bytes : ByteArray) (r : Row) : Bool :=
  decide (decode bytes r.1 = .ok (r.2.1, r.2.2.1)) && decide (r.2.2.1 = lenOf r.2.1 r.2.2.1) && okWord mi own r.1 r.2.1 r.2.2.2.1 r.2.2.2.2
theorem okr_0_0 : rw_0_0.all (okRow 0 RL cL_law) = true := by decide +kernel
theorem okr_0_1 : rw_0_1.all (okRow 0 RL cL_law) = true := by decide +kernel
theorem okr_0_2 : rw_0_2.all (okRow 0 RL cL_law) = true := by decide +kernel
theorem okr_0_3 : rw_0_3.all (okRow 0 RL cL_law) = true := by decide +kernel
theorem okr_0_4 : rw_0_4.all (okRow 0 RL cL_law) = true := by decide +kernel
theorem okr_0_5 : rw_0_5.all (okRow 0 RL cL_law) = true := by decide +kernel
theorem okr_0_6 : rw_0_6.all (okRow 0 RL cL_law) = true := by decide +kernel
theorem okr_0_7 : rw_0_7.all (okRow 0 RL cL_law) = true := by decide +kernel
theorem okr_0_8 : rw_0_8.all (okRow 0 RL cL_law) = true := by decide +kernel
theorem okr_0 : rw_0.all (okRow 0 RL cL_law) = true := by
  simp only [rw_0, List.all_append, okr_0_0, okr_0_1, okr_0_2, okr_0_3, okr_0_4, okr_0_5, okr_0_6, okr_0_7, okr_0_8, Bool.and_self]
theorem okr_1 : rw_1.all (okRow 1 RX0 cX0_init) = true := by decide +kernel
theorem okr_2 : rw_2.all (okRow 2 RX0 cX0_hold) = true := by decide +kernel
theorem okr_3 : rw_3.all (okRow 3 RX0 cX0_choiceOf) = true := by decide +kernel
theorem okr_4 : rw_4.all (okRow 4 RX0 cX0_heap) = true := by decide +kernel
theorem okr_5 : rw_5.all (okRow 5 RX0 cX0_winner) = true := by decide +kernel
theorem okr_6 : rw_6.all (okRow 6 RX0 cX0_lead) = true := by decide +kernel
theorem okr_7 : rw_7.all (okRow 7 RX0 cX0_votersFor) = true := by decide +kernel
theorem okr_8 : rw_8.all (okRow 8 RX0 cX0_cheapestBought) = true := by decide +kernel
theorem okr_9 : rw_9.all (okRow 9 RX1 cX1_init) = true := by decide +kernel
theorem okr_10 : rw_10.all (okRow 10 RX1 cX1_weigh) = true := by decide +kernel
theorem okr_11 : rw_11.all (okRow 11 RX1 cX1_weightOf) = true := by decide +kernel
theorem okr_12 : rw_12.all (okRow 12 RX1 cX1_tell) = true := by decide +kernel
theorem okr_13 : rw_13.all (okRow 13 RX1 cX1_commonDivisor) = true := by decide +kernel
theorem okr_14 : rw_14.all (okRow 14 RX2 cX2_init) = true := by decide +kernel
theorem okr_15 : rw_15.all (okRow 15 RX2 cX2_fittingCells) = true := by decide +kernel
theorem okr_16 : rw_16.all (okRow 16 RX2 cX2_fittingKinds) = true := by decide +kernel
theorem okr_17 : rw_17.all (okRow 17 RX2 cX2_bestTeller) = true := by decide +kernel
theorem okr_18 : rw_18.all (okRow 18 RX2 cX2_bestCell) = true := by decide +kernel
theorem okr_19 : rw_19.all (okRow 19 RX2 cX2_startTally) = true := by decide +kernel
theorem okr_20 : rw_20.all (okRow 20 RX2 cX2_addToTally) = true := by decide +kernel
theorem okr_21 : rw_21.all (okRow 21 RX2 cX2_takeIfLess) = true := by decide +kernel
theorem okr_22 : rw_22.all (okRow 22 RX3 cX3_init) = true := by decide +kernel
theorem okr_23 : rw_23.all (okRow 23 RX3 cX3_clear) = true := by decide +kernel
theorem okr_24 : rw_24.all (okRow 24 RX3 cX3_become) = true := by decide +kernel
theorem okr_25 : rw_25.all (okRow 25 RX3 cX3_settle) = true := by decide +kernel
theorem okr_26 : rw_26.all (okRow 26 RX3 cX3_isEmpty) = true := by decide +kernel
theorem okr_27 : rw_27.all (okRow 27 RX3 cX3_cells) = true := by decide +kernel
theorem okr_28 : rw_28.all (okRow 28 RX3 cX3_hasCell) = true := by decide +kernel
theorem okr_29 : rw_29.all (okRow 29 RX3 cX3_hasOne) = true := by decide +kernel
theorem okr_30 : rw_30.all (okRow 30 RX3 cX3_far) = true := by decide +kernel
theorem okr_31 : rw_31.all (okRow 31 RX3 cX3_beside) = true := by decide +kernel
theorem okr_32 : rw_32.all (okRow 32 RX3 cX3_canGo) = true := by decide +kernel
theorem okr_33 : rw_33.all (okRow 33 RX3 cX3_against) = true := by decide +kernel
theorem okr_34 : rw_34.all (okRow 34 RX3 cX3_isOf) = true := by decide +kernel
theorem okr_35 : rw_35.all (okRow 35 RX3 cX3_liesNorth) = true := by decide +kernel
theorem okr_36 : rw_36.all (okRow 36 RX3 cX3_gains) = true := by decide +kernel
theorem okr_37 : rw_37.all (okRow 37 RX3 cX3_gainsAs) = true := by decide +kernel
theorem okr_38 : rw_38.all (okRow 38 RX3 cX3_gainOf) = true := by decide +kernel
theorem okr_39 : rw_39.all (okRow 39 RX3 cX3_gainfulCells) = true := by decide +kernel
theorem okr_40 : rw_40.all (okRow 40 RX3 cX3_worth) = true := by decide +kernel
theorem okr_41 : rw_41.all (okRow 41 RX3 cX3_hearthsOf) = true := by decide +kernel
theorem okr_42 : rw_42.all (okRow 42 RX3 cX3_allHearths) = true := by decide +kernel
theorem okr_43 : rw_43.all (okRow 43 RX3 cX3_widows) = true := by decide +kernel
theorem okr_44 : rw_44.all (okRow 44 RX3 cX3_goInYear) = true := by decide +kernel
theorem okr_45 : rw_45.all (okRow 45 RX3 cX3_bePushed) = true := by decide +kernel
theorem okr_46 : rw_46.all (okRow 46 RX3 cX3_moveHouse) = true := by decide +kernel
theorem okr_47 : rw_47.all (okRow 47 RX3 cX3_remember) = true := by decide +kernel
theorem okr_48 : rw_48.all (okRow 48 RX3 cX3_undoFrom) = true := by decide +kernel
theorem okr_49 : rw_49.all (okRow 49 RX4 cX4_init) = true := by decide +kernel
theorem okr_50 : rw_50.all (okRow 50 RX4 cX4_steps) = true := by decide +kernel
theorem okr_51 : rw_51.all (okRow 51 RX4 cX4_reachBeside) = true := by decide +kernel
theorem okr_52 : rw_52.all (okRow 52 RX4 cX4_firstWay) = true := by decide +kernel
theorem okr_53 : rw_53.all (okRow 53 RX5 cX5_init) = true := by decide +kernel
theorem okr_54 : rw_54.all (okRow 54 RX5 cX5_bestCourse) = true := by decide +kernel
theorem okr_55 : rw_55.all (okRow 55 RX5 cX5_weighCells) = true := by decide +kernel
theorem okr_56 : rw_56.all (okRow 56 RX5 cX5_bestWay) = true := by decide +kernel
theorem okr_57 : rw_57.all (okRow 57 RX5 cX5_gainedBy) = true := by decide +kernel
theorem okr_58 : rw_58.all (okRow 58 RX5 cX5_duelWorth) = true := by decide +kernel
theorem okr_59 : rw_59.all (okRow 59 RX5 cX5_wanted) = true := by decide +kernel
theorem okr_60 : rw_60.all (okRow 60 RX6 cX6_init) = true := by decide +kernel
theorem okr_61 : rw_61.all (okRow 61 RX6 cX6_readLand) = true := by decide +kernel
theorem okr_62 : rw_62.all (okRow 62 RX6 cX6_readGround) = true := by decide +kernel
theorem okr_63 : rw_63.all (okRow 63 RX6 cX6_readOne) = true := by decide +kernel
theorem okr_64 : rw_64.all (okRow 64 RX6 cX6_kindOf) = true := by decide +kernel
theorem okr_65 : rw_65.all (okRow 65 RX6 cX6_figure) = true := by decide +kernel
theorem okr_66 : rw_66.all (okRow 66 RX6 cX6_atEnd) = true := by decide +kernel
theorem okr_67 : rw_67.all (okRow 67 RX6 cX6_sign) = true := by decide +kernel
theorem okr_68 : rw_68.all (okRow 68 RX6 cX6_skipBlanks) = true := by decide +kernel
theorem okr_69 : rw_69.all (okRow 69 RX7 cX7_init) = true := by decide +kernel
theorem okr_70 : rw_70.all (okRow 70 RX7 cX7_isMissing) = true := by decide +kernel
theorem okr_71 : rw_71.all (okRow 71 RX7 cX7_remove) = true := by decide +kernel
theorem okr_72 : rw_72.all (okRow 72 RX7 cX7_renew) = true := by decide +kernel
theorem okr_73 : rw_73.all (okRow 73 RX7 cX7_holds) = true := by decide +kernel
theorem okr_74 : rw_74.all (okRow 74 RX7 cX7_mixInto) = true := by decide +kernel
theorem okr_75 : rw_75.all (okRow 75 RX8 cX8_init) = true := by decide +kernel
theorem okr_76 : rw_76.all (okRow 76 RX8 cX8_begin) = true := by decide +kernel
theorem okr_77 : rw_77.all (okRow 77 RX8 cX8_pass) = true := by decide +kernel
theorem okr_78 : rw_78.all (okRow 78 RX8 cX8_untilRepeat) = true := by decide +kernel
theorem okr_79 : rw_79.all (okRow 79 RX9 cX9_init) = true := by decide +kernel
theorem okr_80 : rw_80.all (okRow 80 RX9 cX9_row) = true := by decide +kernel
theorem okr_81 : rw_81.all (okRow 81 RX9 cX9_lay) = true := by decide +kernel
theorem okr_82 : rw_82.all (okRow 82 RX9 cX9_at) = true := by decide +kernel
theorem okr_83 : rw_83.all (okRow 83 RX9 cX9_tear) = true := by decide +kernel
theorem okr_84 : rw_84.all (okRow 84 RX9 cX9_copy) = true := by decide +kernel
theorem okr_85 : rw_85.all (okRow 85 RX9 cX9_mean) = true := by decide +kernel
theorem okr_86 : rw_86.all (okRow 86 RX9 cX9_text) = true := by decide +kernel
theorem okr_87 : rw_87.all (okRow 87 RX9 cX9_put) = true := by decide +kernel
theorem okr_88 : rw_88.all (okRow 88 RX9 cX9_fault) = true := by decide +kernel
theorem okr_89 : rw_89.all (okRow 89 RX9 cX9_land) = true := by decide +kernel
theorem okr_90 : rw_90.all (okRow 90 RX9 cX9_one) = true := by decide +kernel
theorem okr_91 : rw_91.all (okRow 91 RX9 cX9_mark) = true := by decide +kernel
theorem okr_92 : rw_92.all (okRow 92 RX9 cX9_gain) = true := by decide +kernel
theorem okr_93 : rw_93.all (okRow 93 RX9 cX9_year) = true := by decide +kernel
theorem okr_94 : rw_94.all (okRow 94 RX9 cX9_push) = true := by decide +kernel
theorem okr_95 : rw_95.all (okRow 95 RX9 cX9_house) = true := by decide +kernel
theorem okr_96 : rw_96.all (okRow 96 RX9 cX9_undo) = true := by decide +kernel
theorem okr_97 : rw_97.all (okRow 97 RX9 cX9_keep) = true := by decide +kernel
theorem okr_98 : rw_98.all (okRow 98 RX9 cX9_on) = true := by decide +kernel
theorem okr_99 : rw_99.all (okRow 99 RX9 cX9_votes) = true := by decide +kernel
theorem okr_100 : rw_100.all (okRow 100 RX9 cX9_carries) = true := by decide +kernel
theorem okr_101 : rw_101.all (okRow 101 RX9 cX9_buy) = true := by decide +kernel
theorem okr_102 : rw_102.all (okRow 102 RX9 cX9_then) = true := by decide +kernel
theorem okr_103 : rw_103.all (okRow 103 RX9 cX9_when) = true := by decide +kernel
theorem okr_104 : rw_104.all (okRow 104 RX9 cX9_round) = true := by decide +kernel
theorem okr_105 : rw_105.all (okRow 105 RX9 cX9_course) = true := by decide +kernel
theorem okr_106 : rw_106.all (okRow 106 RX9 cX9_fits) = true := by decide +kernel
theorem okr_107 : rw_107.all (okRow 107 RX9 cX9_next) = true := by decide +kernel
theorem okr_108 : rw_108.all (okRow 108 RX9 cX9_kinds) = true := by decide +kernel
theorem okr_109 : rw_109.all (okRow 109 RX9 cX9_test) = true := by decide +kernel
theorem okr_110 : rw_110.all (okRow 110 RX9 cX9_way) = true := by decide +kernel
theorem okr_111 : rw_111.all (okRow 111 RX9 cX9_parts) = true := by decide +kernel
theorem okr_112 : rw_112.all (okRow 112 RX9 cX9_duel) = true := by decide +kernel
theorem okr_113 : rw_113.all (okRow 113 RX9 cX9_odds) = true := by decide +kernel
theorem okr_114 : rw_114.all (okRow 114 RX9 cX9_mid) = true := by decide +kernel
theorem okr_115 : rw_115.all (okRow 115 RX9 cX9_lots) = true := by decide +kernel
theorem okr_116 : rw_116.all (okRow 116 RX9 cX9_asked) = true := by decide +kernel
theorem okr_117 : rw_117.all (okRow 117 RX9 cX9_upper) = true := by decide +kernel
theorem okr_118 : rw_118.all (okRow 118 RX9 cX9_lower) = true := by decide +kernel
theorem okr_119 : rw_119.all (okRow 119 RX9 cX9_count) = true := by decide +kernel
theorem okr_120 : rw_120.all (okRow 120 RX9 cX9_finding) = true := by decide +kernel
theorem okr_121 : rw_121.all (okRow 121 RX9 cX9_findings) = true := by decide +kernel
theorem okr_122 : rw_122.all (okRow 122 RX9 cX9_digest) = true := by decide +kernel
theorem okr_123 : rw_123.all (okRow 123 RX9 cX9_isRow) = true := by decide +kernel
theorem okr_124 : rw_124.all (okRow 124 RX9 cX9_isText) = true := by decide +kernel
theorem okr_125 : rw_125.all (okRow 125 RX9 cX9_isWay) = true := by decide +kernel
theorem okr_126 : rw_126.all (okRow 126 RX9 cX9_refuse) = true := by decide +kernel
theorem okr_127 : rw_127.all (okRow 127 RX9 cX9_placeRefusal) = true := by decide +kernel
theorem okr_128 : rw_128.all (okRow 128 RX9 cX9_cellPairsRefusal) = true := by decide +kernel
theorem okr_129 : rw_129.all (okRow 129 RX9 cX9_kindPairsRefusal) = true := by decide +kernel
theorem okr_130 : rw_130.all (okRow 130 RX9 cX9_pairsRefusal) = true := by decide +kernel
theorem okr_131 : rw_131.all (okRow 131 RX9 cX9_aboutOne) = true := by decide +kernel
theorem okr_132 : rw_132.all (okRow 132 RX9 cX9_abstainersBeside) = true := by decide +kernel
theorem okr_133 : rw_133.all (okRow 133 RX9 cX9_passYear) = true := by decide +kernel
theorem okr_134 : rw_134.all (okRow 134 RX9 cX9_present) = true := by decide +kernel
theorem okr_135 : rw_135.all (okRow 135 RX9 cX9_keptLands) = true := by decide +kernel
theorem okr_136 : rw_136.all (okRow 136 RX10 cX10_init) = true := by decide +kernel
theorem okr_137 : rw_137.all (okRow 137 RX10 cX10_in) = true := by decide +kernel
theorem okr_138 : rw_138.all (okRow 138 RX10 cX10_has) = true := by decide +kernel
theorem okr_139 : rw_139.all (okRow 139 RX10 cX10_bits) = true := by decide +kernel
theorem okr_140 : rw_140.all (okRow 140 RX10 cX10_meets) = true := by decide +kernel
theorem okr_141 : rw_141.all (okRow 141 RX10 cX10_finding) = true := by decide +kernel
theorem okr_142 : rw_142.all (okRow 142 RX10 cX10_findings) = true := by decide +kernel
theorem okr_143 : rw_143.all (okRow 143 RX10 cX10_tells) = true := by decide +kernel
theorem okr_144 : rw_144.all (okRow 144 RX10 cX10_asked) = true := by decide +kernel
theorem okr_145 : rw_145.all (okRow 145 RX10 cX10_fraction) = true := by decide +kernel
theorem okr_146 : rw_146.all (okRow 146 RX10 cX10_upper) = true := by decide +kernel
theorem okr_147 : rw_147.all (okRow 147 RX10 cX10_lower) = true := by decide +kernel
theorem okr_148 : rw_148.all (okRow 148 RX10 cX10_isRow) = true := by decide +kernel
theorem okr_149 : rw_149.all (okRow 149 RX10 cX10_rowAt) = true := by decide +kernel
theorem okr_150 : rw_150.all (okRow 150 RX10 cX10_row) = true := by decide +kernel
theorem okr_151 : rw_151.all (okRow 151 RX10 cX10_lay) = true := by decide +kernel
theorem okr_152 : rw_152.all (okRow 152 RX10 cX10_at) = true := by decide +kernel
theorem okr_153 : rw_153.all (okRow 153 RX10 cX10_tear) = true := by decide +kernel
theorem okr_154 : rw_154.all (okRow 154 RX10 cX10_copy) = true := by decide +kernel
theorem okr_155 : rw_155.all (okRow 155 RX10 cX10_mean) = true := by decide +kernel
theorem okr_156 : rw_156.all (okRow 156 RX10 cX10_isText) = true := by decide +kernel
theorem okr_157 : rw_157.all (okRow 157 RX10 cX10_text) = true := by decide +kernel
theorem okr_158 : rw_158.all (okRow 158 RX10 cX10_put) = true := by decide +kernel
theorem okr_159 : rw_159.all (okRow 159 RX10 cX10_byteAt) = true := by decide +kernel
theorem okr_160 : rw_160.all (okRow 160 RX10 cX10_kindBy) = true := by decide +kernel
theorem okr_161 : rw_161.all (okRow 161 RX10 cX10_figure) = true := by decide +kernel
theorem okr_162 : rw_162.all (okRow 162 RX10 cX10_readsHead) = true := by decide +kernel
theorem okr_163 : rw_163.all (okRow 163 RX10 cX10_readsOne) = true := by decide +kernel
theorem okr_164 : rw_164.all (okRow 164 RX10 cX10_faultOf) = true := by decide +kernel
theorem okr_165 : rw_165.all (okRow 165 RX10 cX10_fault) = true := by decide +kernel
theorem okr_166 : rw_166.all (okRow 166 RX10 cX10_land) = true := by decide +kernel
theorem okr_167 : rw_167.all (okRow 167 RX10 cX10_isOne) = true := by decide +kernel
theorem okr_168 : rw_168.all (okRow 168 RX10 cX10_isCell) = true := by decide +kernel
theorem okr_169 : rw_169.all (okRow 169 RX10 cX10_apart) = true := by decide +kernel
theorem okr_170 : rw_170.all (okRow 170 RX10 cX10_far) = true := by decide +kernel
theorem okr_171 : rw_171.all (okRow 171 RX10 cX10_beside) = true := by decide +kernel
theorem okr_172 : rw_172.all (okRow 172 RX10 cX10_against) = true := by decide +kernel
theorem okr_173 : rw_173.all (okRow 173 RX10 cX10_gainBy) = true := by decide +kernel
theorem okr_174 : rw_174.all (okRow 174 RX10 cX10_gainOn) = true := by decide +kernel
theorem okr_175 : rw_175.all (okRow 175 RX10 cX10_all) = true := by decide +kernel
theorem okr_176 : rw_176.all (okRow 176 RX10 cX10_canBe) = true := by decide +kernel
theorem okr_177 : rw_177.all (okRow 177 RX10 cX10_voteOn) = true := by decide +kernel
theorem okr_178 : rw_178.all (okRow 178 RX10 cX10_layCounts) = true := by decide +kernel
theorem okr_179 : rw_179.all (okRow 179 RX10 cX10_carried) = true := by decide +kernel
theorem okr_180 : rw_180.all (okRow 180 RX10 cX10_everybody) = true := by decide +kernel
theorem okr_181 : rw_181.all (okRow 181 RX10 cX10_carriedFrom) = true := by decide +kernel
theorem okr_182 : rw_182.all (okRow 182 RX10 cX10_passes) = true := by decide +kernel
theorem okr_183 : rw_183.all (okRow 183 RX10 cX10_copyNow) = true := by decide +kernel
theorem okr_184 : rw_184.all (okRow 184 RX10 cX10_oneTells) = true := by decide +kernel
theorem okr_185 : rw_185.all (okRow 185 RX10 cX10_one) = true := by decide +kernel
theorem okr_186 : rw_186.all (okRow 186 RX10 cX10_silent) = true := by decide +kernel
theorem okr_187 : rw_187.all (okRow 187 RX10 cX10_cellsOf) = true := by decide +kernel
theorem okr_188 : rw_188.all (okRow 188 RX10 cX10_mark) = true := by decide +kernel
theorem okr_189 : rw_189.all (okRow 189 RX10 cX10_gain) = true := by decide +kernel
theorem okr_190 : rw_190.all (okRow 190 RX10 cX10_remember) = true := by decide +kernel
theorem okr_191 : rw_191.all (okRow 191 RX10 cX10_year) = true := by decide +kernel
theorem okr_192 : rw_192.all (okRow 192 RX10 cX10_push) = true := by decide +kernel
theorem okr_193 : rw_193.all (okRow 193 RX10 cX10_house) = true := by decide +kernel
theorem okr_194 : rw_194.all (okRow 194 RX10 cX10_undo) = true := by decide +kernel
theorem okr_195 : rw_195.all (okRow 195 RX10 cX10_keep) = true := by decide +kernel
theorem okr_196 : rw_196.all (okRow 196 RX10 cX10_on) = true := by decide +kernel
theorem okr_197 : rw_197.all (okRow 197 RX10 cX10_need) = true := by decide +kernel
theorem okr_198 : rw_198.all (okRow 198 RX10 cX10_votes) = true := by decide +kernel
theorem okr_199 : rw_199.all (okRow 199 RX10 cX10_carries) = true := by decide +kernel
theorem okr_200 : rw_200.all (okRow 200 RX10 cX10_hearthsOf) = true := by decide +kernel
theorem okr_201 : rw_201.all (okRow 201 RX10 cX10_buy) = true := by decide +kernel
theorem okr_202 : rw_202.all (okRow 202 RX10 cX10_then) = true := by decide +kernel
theorem okr_203 : rw_203.all (okRow 203 RX10 cX10_when) = true := by decide +kernel
theorem okr_204 : rw_204.all (okRow 204 RX10 cX10_round) = true := by decide +kernel
theorem okr_205 : rw_205.all (okRow 205 RX10 cX10_gainedBy) = true := by decide +kernel
theorem okr_206 : rw_206.all (okRow 206 RX10 cX10_course) = true := by decide +kernel
theorem okr_207 : rw_207.all (okRow 207 RX10 cX10_needPairs) = true := by decide +kernel
theorem okr_208 : rw_208.all (okRow 208 RX10 cX10_fitSet) = true := by decide +kernel
theorem okr_209 : rw_209.all (okRow 209 RX10 cX10_fits) = true := by decide +kernel
theorem okr_210 : rw_210.all (okRow 210 RX10 cX10_alike) = true := by decide +kernel
theorem okr_211 : rw_211.all (okRow 211 RX10 cX10_next) = true := by decide +kernel
theorem okr_212 : rw_212.all (okRow 212 RX10 cX10_kindSet) = true := by decide +kernel
theorem okr_213 : rw_213.all (okRow 213 RX10 cX10_kinds) = true := by decide +kernel
theorem okr_214 : rw_214.all (okRow 214 RX10 cX10_alikeKinds) = true := by decide +kernel
theorem okr_215 : rw_215.all (okRow 215 RX10 cX10_test) = true := by decide +kernel
theorem okr_216 : rw_216.all (okRow 216 RX10 cX10_laySteps) = true := by decide +kernel
theorem okr_217 : rw_217.all (okRow 217 RX10 cX10_way) = true := by decide +kernel
theorem okr_218 : rw_218.all (okRow 218 RX10 cX10_parts) = true := by decide +kernel
theorem okr_219 : rw_219.all (okRow 219 RX10 cX10_duel) = true := by decide +kernel
theorem okr_220 : rw_220.all (okRow 220 RX10 cX10_layParts) = true := by decide +kernel
theorem okr_221 : rw_221.all (okRow 221 RX10 cX10_odds) = true := by decide +kernel
theorem okr_222 : rw_222.all (okRow 222 RX10 cX10_mid) = true := by decide +kernel
theorem okr_223 : rw_223.all (okRow 223 RX10 cX10_lots) = true := by decide +kernel
theorem okr_224 : rw_224.all (okRow 224 RX10 cX10_counted) = true := by decide +kernel
theorem okr_225 : rw_225.all (okRow 225 RX10 cX10_count) = true := by decide +kernel
theorem okr_226 : rw_226.all (okRow 226 RX10 cX10_mix) = true := by decide +kernel
theorem okr_227 : rw_227.all (okRow 227 RX10 cX10_mixLand) = true := by decide +kernel
theorem okr_228 : rw_228.all (okRow 228 RX10 cX10_digest) = true := by decide +kernel
theorem okr_229 : rw_229.all (okRow 229 RJ6 cJ6_bitCount_0f7a4) = true := by decide +kernel
