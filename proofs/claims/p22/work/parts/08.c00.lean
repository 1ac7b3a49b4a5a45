/-! every method's code is the table's: what a call asks of its callee once, not at each call -/
def mIc : List Int := [771, 917, 1013, 909, 941, 957, 913, 964, 968, 1024, 999, 924, 945, 961, 952, 948, 780, 786, 297, 1089, 1098, 1102, 1108, 1114, 1126, 1130, 1134, 1118, 1122, 828, 921, 935, 764, 901, 1009, 1021, 1032, 1142, 905, 979, 931, 976, 983, 990, 996, 205, 445, 455, 458, 538, 461, 520, 529, 465, 542, 582, 586, 558, 562, 554, 570, 574, 578, 550, 566, 546, 591, 252, 1067, 646, 1042, 1054, 745, 749, 650, 657, 695, 703, 716, 720, 724, 728, 707, 699, 711, 685, 681, 661, 665, 677, 691, 669, 673, 143, 386, 1150, 638, 928, 1050, 135, 378, 397, 405, 409, 413, 421, 429, 433, 441, 630, 634, 642, 732, 736, 740, 754, 972, 1017, 1028, 1038, 1046, 1058, 1085, 1094, 1138, 1146, 1155, 1159, 1164, 382, 393, 401, 425, 437, 758, 1063, 1081, 1072, 1076, 1169, 1381, 1385, 1378, 1389, 1411, 1584, 1397, 1407, 1403, 1416, 1420, 1426, 1434, 1442, 1438, 1446, 1465, 1468, 1458, 1462, 1487, 1522, 1500, 1496, 1505, 1450, 1544, 1518, 1556, 1553, 1560, 1564, 1526, 1536, 1530, 1513, 1549, 1572, 1509, 1482, 1478, 1454, 1580, 1600, 1603, 1634, 1614, 1626, 1611, 1618, 1630, 1622, 1641, 1645, 1607, 1596, 1592, 1588, 1649, 1654, 1658, 1662, 1666, 1670, 1674, 1678, 1393, 1688, 1692, 1704, 1708, 1700, 1712, 1696, 1683, 1728, 1724, 1732, 1720, 1716, 1736, 1740, 1744, 1748, 1757, 1761, 1765, 1753, 1769, 1773, 1002, 1381, 1381, 1381, 469, 479, 473, 483, 489, 486, 507, 503, 497, 500, 783, 389, 597, 494]
theorem wd_of {i : Int} {c : Cond} (h : wGet i.toNat = some c) (g : goodWord c = true) : wd i c = true := by
  unfold wd
  rw [Bool.and_eq_true]
  exact ⟨decide_eq_true h, g⟩
def ywP (j : Nat) : Prop := match mTab[j]? with
  | none => True
  | some y => wd (mIc.getD j 0) (.code y.1 y.2.1 y.2.2.1 y.2.2.2) = true
def ck_l0 (q : mMe) (pc : Nat) (o : mOp) : Bool := match mTab[o.2.2.1]?, o.2.2.2.2.2 with
  | some y, [md, pu, i1, ic, ii, ia, ib, ix] =>
    decide (o.2.1 = pc + 3) && ((decide (o.2.2.1 < mIc.length) && decide (ic = mIc.getD o.2.2.1 0)) && (wd ii (.initialized y.1.cls) && (decide (y.1.cls ≠ "java/lang/invoke/MethodHandle" ∧ y.1.cls ≠ "java/lang/invoke/VarHandle") && (decide ((parseMethodDescriptor y.1.desc).map (fun d => d.parameters.length) = some o.2.2.2.1) && (decide (y.2.2.1 ≤ 40) && (decide (pu = if y.2.2.2 = none then 0 else 1) && (decide (0 ≤ ix) &&
    ((decide (md = 0) && (decide (decode q.2.1 pc = .ok (.invokevirtual ix.toNat, 3)) && (decide ((vwCl[o.2.2.2.2.1]?).map (fun r => r.1) = some y.1.cls) && (wd i1 (.methodLink q.1.cls ix.toNat y.1) && (wd ia (.instanceMethod y.1) && wd ib (.selects y.1.cls y.1 y.1)))))) ||
    ((decide (md = 1) && (decide (decode q.2.1 pc = .ok (.invokestatic ix.toNat, 3)) && (wd i1 (.methodLink q.1.cls ix.toNat y.1) && wd ia (.static y.1)))) ||
    ((decide (md = 2) && (decide (decode q.2.1 pc = .ok (.invokespecial ix.toNat, 3)) && (decide (y.2.2.2 = none) && (decide (y.1.name = "<init>") && (wd i1 (.methodLink q.1.cls ix.toNat y.1) && wd ia (.instanceMethod y.1)))))) ||
    ((decide (md = 4) && (decide (decode q.2.1 pc = .ok (.invokevirtual ix.toNat, 3)) && (decide (y.1.cls = "java/lang/String") && (wd i1 (.methodLink q.1.cls ix.toNat y.1) && (wd ia (.instanceMethod y.1) && wd ib (.selects y.1.cls y.1 y.1)))))) ||
    (decide (md = 3) && (decide (decode q.2.1 pc = .ok (.invokespecial ix.toNat, 3)) && (decide (y.2.2.2 = none) && (decide (y.1.name = "<init>") && (wsp (.methodLinkNest q.1.cls ix.toNat y.1 "HotIron") && wd ia (.instanceMethod y.1)))))))))))))))))
  | _, _ => false
def ck_o0 (q : mMe) (pc : Nat) (o : mOp) : Bool := if o.1 = 0 then ck_r q pc o else if o.1 = 1 then ck_l0 q pc o else mCk o q.1.cls q.1.name q.2.1 pc o
def ck_m0 (j : Nat) : Bool := match mTab[j]?, mCode[j]? with
  | some q, some l => plainName q.1.cls && l.all (fun z => ck_o0 q z.1 z.2)
  | _, _ => false
theorem ck_l_of (hY : ∀ j, j < mIc.length → ywP j) {q : mMe} {pc : Nat} {o : mOp} (h : ck_l0 q pc o = true) : ck_l q pc o = true := by
  unfold ck_l0 at h
  split at h
  · rename_i y md pu i1 ic ii ia ib ix e1 e2
    unfold ck_l
    rw [e1, e2]
    dsimp only
    rw [Bool.and_eq_true, Bool.and_eq_true] at h ⊢
    obtain ⟨h1, h2, h3⟩ := h
    rw [Bool.and_eq_true] at h2
    have k := hY _ (of_decide_eq_true h2.1)
    unfold ywP at k
    rw [e1] at k
    rw [← of_decide_eq_true h2.2] at k
    exact ⟨h1, k, h3⟩
  · cases h
theorem ck_o_of (hY : ∀ j, j < mIc.length → ywP j) {q : mMe} {pc : Nat} {o : mOp} (h : ck_o0 q pc o = true) : ck_o q pc o = true := by
  unfold ck_o0 at h
  unfold ck_o
  by_cases g0 : o.1 = 0
  · rw [if_pos g0] at h ⊢
    exact h
  · rw [if_neg g0] at h ⊢
    by_cases g1 : o.1 = 1
    · rw [if_pos g1] at h ⊢
      exact ck_l_of hY h
    · rw [if_neg g1] at h ⊢
      exact h
theorem ck_m_of (hY : ∀ j, j < mIc.length → ywP j) {j : Nat} (h : ck_m0 j = true) : ck_m j = true := by
  unfold ck_m0 at h
  unfold ck_m
  revert h
  cases mTab[j]? with
  | none => exact fun h => h
  | some q =>
    cases mCode[j]? with
    | none => exact fun h => h
    | some l =>
      intro h
      simp only [Bool.and_eq_true, List.all_eq_true] at h ⊢
      exact ⟨h.1, fun z hz => ck_o_of hY (h.2 z hz)⟩
def ckp (j a n : Nat) : Bool := match mTab[j]?, mCode[j]? with
  | some q, some l => plainName q.1.cls && ((l.drop a).take n).all (fun z => ck_o0 q z.1 z.2)
  | _, _ => false
def ckr (j a : Nat) : Bool := match mTab[j]?, mCode[j]? with
  | some q, some l => plainName q.1.cls && (l.drop a).all (fun z => ck_o0 q z.1 z.2)
  | _, _ => false
theorem ckr_0 {j : Nat} (h : ckr j 0 = true) : ck_m0 j = true := h
theorem ckp_r {j a n : Nat} (h1 : ckp j a n = true) (h2 : ckr j (a + n) = true) : ckr j a = true := by
  unfold ckp at h1
  unfold ckr at h2 ⊢
  revert h1 h2
  cases mTab[j]? with
  | none => exact fun h _ => h
  | some q =>
    cases mCode[j]? with
    | none => exact fun h _ => h
    | some l =>
      intro h1 h2
      simp only [Bool.and_eq_true] at h1 h2 ⊢
      refine ⟨h1.1, ?_⟩
      rw [← List.take_append_drop n (l.drop a), List.all_append, List.drop_drop, Bool.and_eq_true]
      exact ⟨h1.2, h2.2⟩
theorem yw0 : wd 771 (.code yX0_init cX0_init 4 none) = true := wd_of rfl rfl
theorem ywP0 : ywP 0 := yw0
theorem yw1 : wd 917 (.code yX0_numberOf cX0_numberOf 4 (some .int)) = true := wd_of rfl rfl
theorem ywP1 : ywP 1 := yw1
theorem yw2 : wd 1013 (.code yX0_ironIn cX0_ironIn 3 (some .int)) = true := wd_of rfl rfl
theorem ywP2 : ywP 2 := yw2
theorem yw3 : wd 909 (.code yX0_takeTongs cX0_takeTongs 4 none) = true := wd_of rfl rfl
theorem ywP3 : ywP 3 := yw3
theorem yw4 : wd 941 (.code yX0_follow cX0_follow 5 none) = true := wd_of rfl rfl
theorem ywP4 : ywP 4 := yw4
theorem yw5 : wd 957 (.code yX0_trace cX0_trace 5 none) = true := wd_of rfl rfl
theorem ywP5 : ywP 5 := yw5
theorem yw6 : wd 913 (.code yX0_addAll cX0_addAll 3 none) = true := wd_of rfl rfl
theorem ywP6 : ywP 6 := yw6
theorem yw7 : wd 964 (.code yX0_keepCommon cX0_keepCommon 5 (some .boolean)) = true := wd_of rfl rfl
theorem ywP7 : ywP 7 := yw7
theorem yw8 : wd 968 (.code yX0_meet cX0_meet 3 (some .boolean)) = true := wd_of rfl rfl
theorem ywP8 : ywP 8 := yw8
theorem yw9 : wd 1024 (.code yX0_sizeOf cX0_sizeOf 3 (some .int)) = true := wd_of rfl rfl
theorem ywP9 : ywP 9 := yw9
theorem yw10 : wd 999 (.code yX0_lowestIn cX0_lowestIn 2 (some .int)) = true := wd_of rfl rfl
theorem ywP10 : ywP 10 := yw10
theorem yw11 : wd 924 (.code yX0_setOnly cX0_setOnly 3 none) = true := wd_of rfl rfl
theorem ywP11 : ywP 11 := yw11
theorem yw12 : wd 945 (.code yX0_heat cX0_heat 5 none) = true := wd_of rfl rfl
theorem ywP12 : ywP 12 := yw12
theorem yw13 : wd 961 (.code yX0_unheat cX0_unheat 5 none) = true := wd_of rfl rfl
theorem ywP13 : ywP 13 := yw13
theorem yw14 : wd 952 (.code yX0_spread cX0_spread 11 none) = true := wd_of rfl rfl
theorem ywP14 : ywP 14 := yw14
theorem yw15 : wd 948 (.code yX0_shift cX0_shift 11 none) = true := wd_of rfl rfl
theorem ywP15 : ywP 15 := yw15
theorem yw16 : wd 780 (.code yX0_findRows cX0_findRows 8 none) = true := wd_of rfl rfl
theorem ywP16 : ywP 16 := yw16
theorem yw17 : wd 786 (.code yX0_setBits cX0_setBits 7 none) = true := wd_of rfl rfl
theorem ywP17 : ywP 17 := yw17
theorem yw18 : wd 297 (.code yX1_init cX1_init 1 none) = true := wd_of rfl rfl
theorem ywP18 : ywP 18 := yw18
theorem yw19 : wd 1089 (.code yX1_forget cX1_forget 1 none) = true := wd_of rfl rfl
theorem ywP19 : ywP 19 := yw19
theorem yw20 : wd 1098 (.code yX1_told cX1_told 4 (some .int)) = true := wd_of rfl rfl
theorem ywP20 : ywP 20 := yw20
theorem yw21 : wd 1102 (.code yX1_search cX1_search 5 none) = true := wd_of rfl rfl
theorem ywP21 : ywP 21 := yw21
theorem yw22 : wd 1108 (.code yX1_measureChains cX1_measureChains 3 none) = true := wd_of rfl rfl
theorem ywP22 : ywP 22 := yw22
theorem yw23 : wd 1114 (.code yX1_place cX1_place 11 none) = true := wd_of rfl rfl
theorem ywP23 : ywP 23 := yw23
theorem yw24 : wd 1126 (.code yX1_bound cX1_bound 7 (some .int)) = true := wd_of rfl rfl
theorem ywP24 : ywP 24 := yw24
theorem yw25 : wd 1130 (.code yX1_isReady cX1_isReady 3 (some .boolean)) = true := wd_of rfl rfl
theorem ywP25 : ywP 25 := yw25
theorem yw26 : wd 1134 (.code yX1_earliest cX1_earliest 4 (some .int)) = true := wd_of rfl rfl
theorem ywP26 : ywP 26 := yw26
theorem yw27 : wd 1118 (.code yX1_latestFree cX1_latestFree 3 (some .int)) = true := wd_of rfl rfl
theorem ywP27 : ywP 27 := yw27
theorem yw28 : wd 1122 (.code yX1_freeFirst cX1_freeFirst 3 (some .int)) = true := wd_of rfl rfl
theorem ywP28 : ywP 28 := yw28
theorem yw29 : wd 828 (.code yX2_init cX2_init 4 none) = true := wd_of rfl rfl
theorem ywP29 : ywP 29 := yw29
theorem yw30 : wd 921 (.code yX2_aim cX2_aim 4 none) = true := wd_of rfl rfl
theorem ywP30 : ywP 30 := yw30
theorem yw31 : wd 935 (.code yX2_at cX2_at 5 (some (.array .long))) = true := wd_of rfl rfl
theorem ywP31 : ywP 31 := yw31
theorem yw32 : wd 764 (.code yX3_init cX3_init 3 none) = true := wd_of rfl rfl
theorem ywP32 : ywP 32 := yw32
theorem yw33 : wd 901 (.code yX3_fewestHeats cX3_fewestHeats 2 (some .int)) = true := wd_of rfl rfl
theorem ywP33 : ywP 33 := yw33
theorem yw34 : wd 1009 (.code yX3_planned cX3_planned 3 (some .int)) = true := wd_of rfl rfl
theorem ywP34 : ywP 34 := yw34
theorem yw35 : wd 1021 (.code yX3_rowsBehind cX3_rowsBehind 3 (some .int)) = true := wd_of rfl rfl
theorem ywP35 : ywP 35 := yw35
theorem yw36 : wd 1032 (.code yX3_leastEven cX3_leastEven 8 (some .int)) = true := wd_of rfl rfl
theorem ywP36 : ywP 36 := yw36
theorem yw37 : wd 1142 (.code yX3_savedByBlow cX3_savedByBlow 6 (some .int)) = true := wd_of rfl rfl
theorem ywP37 : ywP 37 := yw37
theorem yw38 : wd 905 (.code yX3_aimAt cX3_aimAt 2 none) = true := wd_of rfl rfl
theorem ywP38 : ywP 38 := yw38
theorem yw39 : wd 979 (.code yX3_keyOf cX3_keyOf 4 (some .long)) = true := wd_of rfl rfl
theorem ywP39 : ywP 39 := yw39
theorem yw40 : wd 931 (.code yX3_fewest cX3_fewest 4 (some .int)) = true := wd_of rfl rfl
theorem ywP40 : ywP 40 := yw40
theorem yw41 : wd 976 (.code yX3_layPlan cX3_layPlan 7 none) = true := wd_of rfl rfl
theorem ywP41 : ywP 41 := yw41
theorem yw42 : wd 983 (.code yX3_chooseCells cX3_chooseCells 6 none) = true := wd_of rfl rfl
theorem ywP42 : ywP 42 := yw42
theorem yw43 : wd 990 (.code yX3_trimPath cX3_trimPath 3 none) = true := wd_of rfl rfl
theorem ywP43 : ywP 43 := yw43
theorem yw44 : wd 996 (.code yX3_chooseRows cX3_chooseRows 4 none) = true := wd_of rfl rfl
theorem ywP44 : ywP 44 := yw44
theorem yw45 : wd 205 (.code yX4_init cX4_init 1 none) = true := wd_of rfl rfl
theorem ywP45 : ywP 45 := yw45
theorem yw46 : wd 445 (.code yX4_understands cX4_understands 4 (some .boolean)) = true := wd_of rfl rfl
theorem ywP46 : ywP 46 := yw46
theorem yw47 : wd 455 (.code yX4_splitTokens cX4_splitTokens 8 none) = true := wd_of rfl rfl
theorem ywP47 : ywP 47 := yw47
theorem yw48 : wd 458 (.code yX4_sortOf cX4_sortOf 1 (some .int)) = true := wd_of rfl rfl
theorem ywP48 : ywP 48 := yw48
theorem yw49 : wd 538 (.code yX4_numberIn cX4_numberIn 5 (some .int)) = true := wd_of rfl rfl
theorem ywP49 : ywP 49 := yw49
theorem yw50 : wd 461 (.code yX4_wordIn cX4_wordIn 5 (some .int)) = true := wd_of rfl rfl
theorem ywP50 : ywP 50 := yw50
theorem yw51 : wd 520 (.code yX4_partIn cX4_partIn 3 (some .int)) = true := wd_of rfl rfl
theorem ywP51 : ywP 51 := yw51
theorem yw52 : wd 529 (.code yX4_stepIn cX4_stepIn 3 (some .int)) = true := wd_of rfl rfl
theorem ywP52 : ywP 52 := yw52
theorem yw53 : wd 465 (.code yX4_isWord cX4_isWord 5 (some .boolean)) = true := wd_of rfl rfl
theorem ywP53 : ywP 53 := yw53
theorem yw54 : wd 542 (.code yX4_readStep cX4_readStep 3 none) = true := wd_of rfl rfl
theorem ywP54 : ywP 54 := yw54
theorem yw55 : wd 582 (.code yX4_readTest cX4_readTest 4 none) = true := wd_of rfl rfl
theorem ywP55 : ywP 55 := yw55
theorem yw56 : wd 586 (.code yX4_readPlain cX4_readPlain 3 none) = true := wd_of rfl rfl
theorem ywP56 : ywP 56 := yw56
theorem yw57 : wd 558 (.code yX4_readSum cX4_readSum 3 none) = true := wd_of rfl rfl
theorem ywP57 : ywP 57 := yw57
theorem yw58 : wd 562 (.code yX4_readPart cX4_readPart 2 none) = true := wd_of rfl rfl
theorem ywP58 : ywP 58 := yw58
theorem yw59 : wd 554 (.code yX4_readNumber cX4_readNumber 2 none) = true := wd_of rfl rfl
theorem ywP59 : ywP 59 := yw59
theorem yw60 : wd 570 (.code yX4_enters cX4_enters 2 (some .boolean)) = true := wd_of rfl rfl
theorem ywP60 : ywP 60 := yw60
theorem yw61 : wd 574 (.code yX4_take cX4_take 2 none) = true := wd_of rfl rfl
theorem ywP61 : ywP 61 := yw61
theorem yw62 : wd 578 (.code yX4_emit cX4_emit 2 none) = true := wd_of rfl rfl
theorem ywP62 : ywP 62 := yw62
theorem yw63 : wd 550 (.code yX4_fail cX4_fail 1 none) = true := wd_of rfl rfl
theorem ywP63 : ywP 63 := yw63
theorem yw64 : wd 566 (.code yX4_sees cX4_sees 2 (some .boolean)) = true := wd_of rfl rfl
theorem ywP64 : ywP 64 := yw64
theorem yw65 : wd 546 (.code yX4_now cX4_now 1 (some .int)) = true := wd_of rfl rfl
theorem ywP65 : ywP 65 := yw65
theorem yw66 : wd 591 (.code yX5_init cX5_init 2 none) = true := wd_of rfl rfl
theorem ywP66 : ywP 66 := yw66
theorem yw67 : wd 252 (.code yX6_init cX6_init 1 none) = true := wd_of rfl rfl
theorem ywP67 : ywP 67 := yw67
theorem yw68 : wd 1067 (.code yX6_takeHand cX6_takeHand 3 none) = true := wd_of rfl rfl
theorem ywP68 : ywP 68 := yw68
theorem yw69 : wd 646 (.code yX6_carryOut cX6_carryOut 7 (some .int)) = true := wd_of rfl rfl
theorem ywP69 : ywP 69 := yw69
theorem yw70 : wd 1042 (.code yX6_isLike cX6_isLike 4 (some .boolean)) = true := wd_of rfl rfl
theorem ywP70 : ywP 70 := yw70
theorem yw71 : wd 1054 (.code yX6_endedAs cX6_endedAs 6 (some .boolean)) = true := wd_of rfl rfl
theorem ywP71 : ywP 71 := yw71
theorem yw72 : wd 745 (.code yX6_chance cX6_chance 8 (some .long)) = true := wd_of rfl rfl
theorem ywP72 : ywP 72 := yw72
theorem yw73 : wd 749 (.code yX6_commonDivisor cX6_commonDivisor 11 (some .long)) = true := wd_of rfl rfl
theorem ywP73 : ywP 73 := yw73
theorem yw74 : wd 650 (.code yX6_begin cX6_begin 2 none) = true := wd_of rfl rfl
theorem ywP74 : ywP 74 := yw74
theorem yw75 : wd 657 (.code yX6_pass cX6_pass 6 (some .int)) = true := wd_of rfl rfl
theorem ywP75 : ywP 75 := yw75
theorem yw76 : wd 695 (.code yX6_fire cX6_fire 5 (some .boolean)) = true := wd_of rfl rfl
theorem ywP76 : ywP 76 := yw76
theorem yw77 : wd 703 (.code yX6_strike cX6_strike 4 none) = true := wd_of rfl rfl
theorem ywP77 : ywP 77 := yw77
theorem yw78 : wd 716 (.code yX6_moveIron cX6_moveIron 3 none) = true := wd_of rfl rfl
theorem ywP78 : ywP 78 := yw78
theorem yw79 : wd 720 (.code yX6_shoulder cX6_shoulder 2 none) = true := wd_of rfl rfl
theorem ywP79 : ywP 79 := yw79
theorem yw80 : wd 724 (.code yX6_punch cX6_punch 2 none) = true := wd_of rfl rfl
theorem ywP80 : ywP 80 := yw80
theorem yw81 : wd 728 (.code yX6_weld cX6_weld 3 none) = true := wd_of rfl rfl
theorem ywP81 : ywP 81 := yw81
theorem yw82 : wd 707 (.code yX6_useBlow cX6_useBlow 3 (some .boolean)) = true := wd_of rfl rfl
theorem ywP82 : ywP 82 := yw82
theorem yw83 : wd 699 (.code yX6_loseIron cX6_loseIron 2 none) = true := wd_of rfl rfl
theorem ywP83 : ywP 83 := yw83
theorem yw84 : wd 711 (.code yX6_slips cX6_slips 1 (some .boolean)) = true := wd_of rfl rfl
theorem ywP84 : ywP 84 := yw84
theorem yw85 : wd 685 (.code yX6_isThere cX6_isThere 2 (some .boolean)) = true := wd_of rfl rfl
theorem ywP85 : ywP 85 := yw85
theorem yw86 : wd 681 (.code yX6_isHot cX6_isHot 2 (some .boolean)) = true := wd_of rfl rfl
theorem ywP86 : ywP 86 := yw86
theorem yw87 : wd 661 (.code yX6_reckon cX6_reckon 6 none) = true := wd_of rfl rfl
theorem ywP87 : ywP 87 := yw87
theorem yw88 : wd 665 (.code yX6_partValue cX6_partValue 2 (some .int)) = true := wd_of rfl rfl
theorem ywP88 : ywP 88 := yw88
theorem yw89 : wd 677 (.code yX6_cellValue cX6_cellValue 3 (some .int)) = true := wd_of rfl rfl
theorem ywP89 : ywP 89 := yw89
theorem yw90 : wd 691 (.code yX6_joined cX6_joined 3 (some .int)) = true := wd_of rfl rfl
theorem ywP90 : ywP 90 := yw90
theorem yw91 : wd 669 (.code yX6_push cX6_push 2 none) = true := wd_of rfl rfl
theorem ywP91 : ywP 91 := yw91
theorem yw92 : wd 673 (.code yX6_pop cX6_pop 1 (some .int)) = true := wd_of rfl rfl
theorem ywP92 : ywP 92 := yw92
theorem yw93 : wd 143 (.code yX7_init cX7_init 1 none) = true := wd_of rfl rfl
theorem ywP93 : ywP 93 := yw93
theorem yw94 : wd 386 (.code yX7_widen cX7_widen 2 none) = true := wd_of rfl rfl
theorem ywP94 : ywP 94 := yw94
theorem yw95 : wd 1150 (.code yX7_copyFrom cX7_copyFrom 3 none) = true := wd_of rfl rfl
theorem ywP95 : ywP 95 := yw95
theorem yw96 : wd 638 (.code yX7_recipeAt cX7_recipeAt 2 (some (.object "HotIron$Recipe"))) = true := wd_of rfl rfl
theorem ywP96 : ywP 96 := yw96
theorem yw97 : wd 928 (.code yX7_ironOf cX7_ironOf 4 (some .int)) = true := wd_of rfl rfl
theorem ywP97 : ywP 97 := yw97
theorem yw98 : wd 1050 (.code yX7_tellsBar cX7_tellsBar 4 (some .boolean)) = true := wd_of rfl rfl
theorem ywP98 : ywP 98 := yw98
theorem yw99 : wd 135 (.code yX8_init cX8_init 1 none) = true := wd_of rfl rfl
theorem ywP99 : ywP 99 := yw99
theorem yw100 : wd 378 (.code yX8_wide cX8_wide 3 (some .int)) = true := wd_of rfl rfl
theorem ywP100 : ywP 100 := yw100
theorem yw101 : wd 397 (.code yX8_bar cX8_bar 3 (some .int)) = true := wd_of rfl rfl
theorem ywP101 : ywP 101 := yw101
theorem yw102 : wd 405 (.code yX8_shape cX8_shape 3 (some .int)) = true := wd_of rfl rfl
theorem ywP102 : ywP 102 := yw102
theorem yw103 : wd 409 (.code yX8_tongs cX8_tongs 3 (some .int)) = true := wd_of rfl rfl
theorem ywP103 : ywP 103 := yw103
theorem yw104 : wd 413 (.code yX8_terms cX8_terms 4 (some .int)) = true := wd_of rfl rfl
theorem ywP104 : ywP 104 := yw104
theorem yw105 : wd 421 (.code yX8_feed cX8_feed 6 (some .int)) = true := wd_of rfl rfl
theorem ywP105 : ywP 105 := yw105
theorem yw106 : wd 429 (.code yX8_end cX8_end 2 (some .int)) = true := wd_of rfl rfl
theorem ywP106 : ywP 106 := yw106
theorem yw107 : wd 433 (.code yX8_row cX8_row 5 (some .int)) = true := wd_of rfl rfl
theorem ywP107 : ywP 107 := yw107
theorem yw108 : wd 441 (.code yX8_recipe cX8_recipe 3 (some .int)) = true := wd_of rfl rfl
theorem ywP108 : ywP 108 := yw108
theorem yw109 : wd 630 (.code yX8_fault cX8_fault 1 (some .int)) = true := wd_of rfl rfl
theorem ywP109 : ywP 109 := yw109
theorem yw110 : wd 634 (.code yX8_steps cX8_steps 3 (some .int)) = true := wd_of rfl rfl
theorem ywP110 : ywP 110 := yw110
theorem yw111 : wd 642 (.code yX8_run cX8_run 3 (some .int)) = true := wd_of rfl rfl
theorem ywP111 : ywP 111 := yw111
theorem yw112 : wd 732 (.code yX8_came cX8_came 2 (some .int)) = true := wd_of rfl rfl
theorem ywP112 : ywP 112 := yw112
theorem yw113 : wd 736 (.code yX8_iron cX8_iron 2 (some .int)) = true := wd_of rfl rfl
theorem ywP113 : ywP 113 := yw113
theorem yw114 : wd 740 (.code yX8_welds cX8_welds 2 (some .long)) = true := wd_of rfl rfl
theorem ywP114 : ywP 114 := yw114
theorem yw115 : wd 754 (.code yX8_heats cX8_heats 1 (some .int)) = true := wd_of rfl rfl
theorem ywP115 : ywP 115 := yw115
theorem yw116 : wd 972 (.code yX8_plan cX8_plan 4 (some .int)) = true := wd_of rfl rfl
theorem ywP116 : ywP 116 := yw116
theorem yw117 : wd 1017 (.code yX8_reached cX8_reached 2 (some .int)) = true := wd_of rfl rfl
theorem ywP117 : ywP 117 := yw117
theorem yw118 : wd 1028 (.code yX8_even cX8_even 1 (some .int)) = true := wd_of rfl rfl
theorem ywP118 : ywP 118 := yw118
theorem yw119 : wd 1038 (.code yX8_change cX8_change 4 (some .int)) = true := wd_of rfl rfl
theorem ywP119 : ywP 119 := yw119
theorem yw120 : wd 1046 (.code yX8_made cX8_made 8 (some .int)) = true := wd_of rfl rfl
theorem ywP120 : ywP 120 := yw120
theorem yw121 : wd 1058 (.code yX8_twelve cX8_twelve 6 (some .int)) = true := wd_of rfl rfl
theorem ywP121 : ywP 121 := yw121
theorem yw122 : wd 1085 (.code yX8_piece cX8_piece 4 (some .int)) = true := wd_of rfl rfl
theorem ywP122 : ywP 122 := yw122
theorem yw123 : wd 1094 (.code yX8_soonest cX8_soonest 3 (some .int)) = true := wd_of rfl rfl
theorem ywP123 : ywP 123 := yw123
theorem yw124 : wd 1138 (.code yX8_striker cX8_striker 1 (some .int)) = true := wd_of rfl rfl
theorem ywP124 : ywP 124 := yw124
theorem yw125 : wd 1146 (.code yX8_image cX8_image 3 (some .int)) = true := wd_of rfl rfl
theorem ywP125 : ywP 125 := yw125
theorem yw126 : wd 1155 (.code yX8_back cX8_back 3 (some .int)) = true := wd_of rfl rfl
theorem ywP126 : ywP 126 := yw126
theorem yw127 : wd 1159 (.code yX8_count cX8_count 2 (some .int)) = true := wd_of rfl rfl
theorem ywP127 : ywP 127 := yw127
theorem yw128 : wd 1164 (.code yX8_status cX8_status 1 (some .int)) = true := wd_of rfl rfl
theorem ywP128 : ywP 128 := yw128
theorem yw129 : wd 382 (.code yX8_refuse cX8_refuse 3 (some .int)) = true := wd_of rfl rfl
theorem ywP129 : ywP 129 := yw129
theorem yw130 : wd 393 (.code yX8_grant cX8_grant 2 (some .int)) = true := wd_of rfl rfl
theorem ywP130 : ywP 130 := yw130
theorem yw131 : wd 401 (.code yX8_setIron cX8_setIron 5 (some .int)) = true := wd_of rfl rfl
theorem ywP131 : ywP 131 := yw131
theorem yw132 : wd 425 (.code yX8_write cX8_write 3 none) = true := wd_of rfl rfl
theorem ywP132 : ywP 132 := yw132
theorem yw133 : wd 437 (.code yX8_intOnTape cX8_intOnTape 4 (some .int)) = true := wd_of rfl rfl
theorem ywP133 : ywP 133 := yw133
theorem yw134 : wd 758 (.code yX8_planner cX8_planner 3 (some (.object "HotIron$Planner"))) = true := wd_of rfl rfl
theorem ywP134 : ywP 134 := yw134
theorem yw135 : wd 1063 (.code yX8_makeTwelve cX8_makeTwelve 5 none) = true := wd_of rfl rfl
theorem ywP135 : ywP 135 := yw135
theorem yw136 : wd 1081 (.code yX8_manyAs cX8_manyAs 4 (some .int)) = true := wd_of rfl rfl
theorem ywP136 : ywP 136 := yw136
theorem yw137 : wd 1072 (.code yX8_widestApart cX8_widestApart 4 (some .int)) = true := wd_of rfl rfl
theorem ywP137 : ywP 137 := yw137
theorem yw138 : wd 1076 (.code yX8_ironApart cX8_ironApart 8 (some .int)) = true := wd_of rfl rfl
theorem ywP138 : ywP 138 := yw138
theorem yw139 : wd 1169 (.code yX9_init cX9_init 2 none) = true := wd_of rfl rfl
theorem ywP139 : ywP 139 := yw139
theorem yw140 : wd 1381 (.code yX9_in cX9_in 6 (some .boolean)) = true := wd_of rfl rfl
theorem ywP140 : ywP 140 := yw140
theorem yw141 : wd 1385 (.code yX9_tell cX9_tell 2 (some .int)) = true := wd_of rfl rfl
theorem ywP141 : ywP 141 := yw141
theorem yw142 : wd 1378 (.code yX9_image cX9_image 3 (some .int)) = true := wd_of rfl rfl
theorem ywP142 : ywP 142 := yw142
theorem yw143 : wd 1389 (.code yX9_back cX9_back 3 (some .int)) = true := wd_of rfl rfl
theorem ywP143 : ywP 143 := yw143
theorem yw144 : wd 1411 (.code yX9_isCell cX9_isCell 3 (some .boolean)) = true := wd_of rfl rfl
theorem ywP144 : ywP 144 := yw144
theorem yw145 : wd 1584 (.code yX9_isRecipe cX9_isRecipe 2 (some .boolean)) = true := wd_of rfl rfl
theorem ywP145 : ywP 145 := yw145
theorem yw146 : wd 1397 (.code yX9_wide cX9_wide 4 (some .int)) = true := wd_of rfl rfl
theorem ywP146 : ywP 146 := yw146
theorem yw147 : wd 1407 (.code yX9_put cX9_put 5 (some .int)) = true := wd_of rfl rfl
theorem ywP147 : ywP 147 := yw147
theorem yw148 : wd 1403 (.code yX9_bar cX9_bar 3 (some .int)) = true := wd_of rfl rfl
theorem ywP148 : ywP 148 := yw148
theorem yw149 : wd 1416 (.code yX9_shape cX9_shape 3 (some .int)) = true := wd_of rfl rfl
theorem ywP149 : ywP 149 := yw149
theorem yw150 : wd 1420 (.code yX9_tongs cX9_tongs 3 (some .int)) = true := wd_of rfl rfl
theorem ywP150 : ywP 150 := yw150
theorem yw151 : wd 1426 (.code yX9_terms cX9_terms 4 (some .int)) = true := wd_of rfl rfl
theorem ywP151 : ywP 151 := yw151
theorem yw152 : wd 1434 (.code yX9_row cX9_row 4 (some .int)) = true := wd_of rfl rfl
theorem ywP152 : ywP 152 := yw152
theorem yw153 : wd 1442 (.code yX9_four cX9_four 3 none) = true := wd_of rfl rfl
theorem ywP153 : ywP 153 := yw153
theorem yw154 : wd 1438 (.code yX9_feed cX9_feed 6 (some .int)) = true := wd_of rfl rfl
theorem ywP154 : ywP 154 := yw154
theorem yw155 : wd 1446 (.code yX9_end cX9_end 2 (some .int)) = true := wd_of rfl rfl
theorem ywP155 : ywP 155 := yw155
theorem yw156 : wd 1465 (.code yX9_isSmall cX9_isSmall 1 (some .boolean)) = true := wd_of rfl rfl
theorem ywP156 : ywP 156 := yw156
theorem yw157 : wd 1468 (.code yX9_isDigit cX9_isDigit 1 (some .boolean)) = true := wd_of rfl rfl
theorem ywP157 : ywP 157 := yw157
theorem yw158 : wd 1458 (.code yX9_begin cX9_begin 1 none) = true := wd_of rfl rfl
theorem ywP158 : ywP 158 := yw158
theorem yw159 : wd 1462 (.code yX9_next cX9_next 1 none) = true := wd_of rfl rfl
theorem ywP159 : ywP 159 := yw159
theorem yw160 : wd 1487 (.code yX9_isWord cX9_isWord 3 (some .boolean)) = true := wd_of rfl rfl
theorem ywP160 : ywP 160 := yw160
theorem yw161 : wd 1522 (.code yX9_isSign cX9_isSign 2 (some .boolean)) = true := wd_of rfl rfl
theorem ywP161 : ywP 161 := yw161
theorem yw162 : wd 1500 (.code yX9_wrong cX9_wrong 1 none) = true := wd_of rfl rfl
theorem ywP162 : ywP 162 := yw162
theorem yw163 : wd 1496 (.code yX9_must cX9_must 2 none) = true := wd_of rfl rfl
theorem ywP163 : ywP 163 := yw163
theorem yw164 : wd 1505 (.code yX9_number cX9_number 4 (some .int)) = true := wd_of rfl rfl
theorem ywP164 : ywP 164 := yw164
theorem yw165 : wd 1450 (.code yX9_fault cX9_fault 1 (some .int)) = true := wd_of rfl rfl
theorem ywP165 : ywP 165 := yw165
theorem yw166 : wd 1544 (.code yX9_emit cX9_emit 3 none) = true := wd_of rfl rfl
theorem ywP166 : ywP 166 := yw166
theorem yw167 : wd 1518 (.code yX9_push cX9_push 2 none) = true := wd_of rfl rfl
theorem ywP167 : ywP 167 := yw167
theorem yw168 : wd 1556 (.code yX9_binds cX9_binds 1 (some .int)) = true := wd_of rfl rfl
theorem ywP168 : ywP 168 := yw168
theorem yw169 : wd 1553 (.code yX9_settle cX9_settle 2 none) = true := wd_of rfl rfl
theorem ywP169 : ywP 169 := yw169
theorem yw170 : wd 1560 (.code yX9_inner cX9_inner 3 (some .int)) = true := wd_of rfl rfl
theorem ywP170 : ywP 170 := yw170
theorem yw171 : wd 1564 (.code yX9_isCompared cX9_isCompared 2 (some .boolean)) = true := wd_of rfl rfl
theorem ywP171 : ywP 171 := yw171
theorem yw172 : wd 1526 (.code yX9_open cX9_open 3 none) = true := wd_of rfl rfl
theorem ywP172 : ywP 172 := yw172
theorem yw173 : wd 1536 (.code yX9_wordAt cX9_wordAt 1 (some .int)) = true := wd_of rfl rfl
theorem ywP173 : ywP 173 := yw173
theorem yw174 : wd 1530 (.code yX9_readPart cX9_readPart 3 (some .int)) = true := wd_of rfl rfl
theorem ywP174 : ywP 174 := yw174
theorem yw175 : wd 1513 (.code yX9_readPlain cX9_readPlain 1 (some .int)) = true := wd_of rfl rfl
theorem ywP175 : ywP 175 := yw175
theorem yw176 : wd 1549 (.code yX9_behindSum cX9_behindSum 4 (some .int)) = true := wd_of rfl rfl
theorem ywP176 : ywP 176 := yw176
theorem yw177 : wd 1572 (.code yX9_behindTest cX9_behindTest 2 (some .int)) = true := wd_of rfl rfl
theorem ywP177 : ywP 177 := yw177
theorem yw178 : wd 1509 (.code yX9_readExpression cX9_readExpression 3 none) = true := wd_of rfl rfl
theorem ywP178 : ywP 178 := yw178
theorem yw179 : wd 1482 (.code yX9_sortAt cX9_sortAt 1 (some .int)) = true := wd_of rfl rfl
theorem ywP179 : ywP 179 := yw179
theorem yw180 : wd 1478 (.code yX9_readStep cX9_readStep 3 none) = true := wd_of rfl rfl
theorem ywP180 : ywP 180 := yw180
theorem yw181 : wd 1454 (.code yX9_recipe cX9_recipe 3 (some .int)) = true := wd_of rfl rfl
theorem ywP181 : ywP 181 := yw181
theorem yw182 : wd 1580 (.code yX9_steps cX9_steps 2 (some .int)) = true := wd_of rfl rfl
theorem ywP182 : ywP 182 := yw182
theorem yw183 : wd 1600 (.code yX9_reckon cX9_reckon 8 (some .int)) = true := wd_of rfl rfl
theorem ywP183 : ywP 183 := yw183
theorem yw184 : wd 1603 (.code yX9_joined cX9_joined 3 (some .int)) = true := wd_of rfl rfl
theorem ywP184 : ywP 184 := yw184
theorem yw185 : wd 1634 (.code yX9_draw cX9_draw 2 (some .int)) = true := wd_of rfl rfl
theorem ywP185 : ywP 185 := yw185
theorem yw186 : wd 1614 (.code yX9_isNear cX9_isNear 2 (some .boolean)) = true := wd_of rfl rfl
theorem ywP186 : ywP 186 := yw186
theorem yw187 : wd 1626 (.code yX9_isHot cX9_isHot 2 (some .boolean)) = true := wd_of rfl rfl
theorem ywP187 : ywP 187 := yw187
theorem yw188 : wd 1611 (.code yX9_fire cX9_fire 4 (some .boolean)) = true := wd_of rfl rfl
theorem ywP188 : ywP 188 := yw188
theorem yw189 : wd 1618 (.code yX9_lose cX9_lose 2 none) = true := wd_of rfl rfl
theorem ywP189 : ywP 189 := yw189
theorem yw190 : wd 1630 (.code yX9_uses cX9_uses 3 (some .boolean)) = true := wd_of rfl rfl
theorem ywP190 : ywP 190 := yw190
theorem yw191 : wd 1622 (.code yX9_strike cX9_strike 5 none) = true := wd_of rfl rfl
theorem ywP191 : ywP 191 := yw191
theorem yw192 : wd 1641 (.code yX9_punch cX9_punch 2 none) = true := wd_of rfl rfl
theorem ywP192 : ywP 192 := yw192
theorem yw193 : wd 1645 (.code yX9_weld cX9_weld 3 none) = true := wd_of rfl rfl
theorem ywP193 : ywP 193 := yw193
theorem yw194 : wd 1607 (.code yX9_doStep cX9_doStep 5 (some .boolean)) = true := wd_of rfl rfl
theorem ywP194 : ywP 194 := yw194
theorem yw195 : wd 1596 (.code yX9_rest0 cX9_rest0 2 none) = true := wd_of rfl rfl
theorem ywP195 : ywP 195 := yw195
theorem yw196 : wd 1592 (.code yX9_goThrough cX9_goThrough 8 none) = true := wd_of rfl rfl
theorem ywP196 : ywP 196 := yw196
theorem yw197 : wd 1588 (.code yX9_run cX9_run 3 (some .int)) = true := wd_of rfl rfl
theorem ywP197 : ywP 197 := yw197
theorem yw198 : wd 1649 (.code yX9_came cX9_came 2 (some .int)) = true := wd_of rfl rfl
theorem ywP198 : ywP 198 := yw198
theorem yw199 : wd 1654 (.code yX9_iron cX9_iron 2 (some .int)) = true := wd_of rfl rfl
theorem ywP199 : ywP 199 := yw199
theorem yw200 : wd 1658 (.code yX9_welds cX9_welds 12 (some .long)) = true := wd_of rfl rfl
theorem ywP200 : ywP 200 := yw200
theorem yw201 : wd 1662 (.code yX9_change cX9_change 9 (some .int)) = true := wd_of rfl rfl
theorem ywP201 : ywP 201 := yw201
theorem yw202 : wd 1666 (.code yX9_keepIron cX9_keepIron 2 none) = true := wd_of rfl rfl
theorem ywP202 : ywP 202 := yw202
theorem yw203 : wd 1670 (.code yX9_apart cX9_apart 5 (some .int)) = true := wd_of rfl rfl
theorem ywP203 : ywP 203 := yw203
theorem yw204 : wd 1674 (.code yX9_made cX9_made 10 (some .int)) = true := wd_of rfl rfl
theorem ywP204 : ywP 204 := yw204
theorem yw205 : wd 1678 (.code yX9_twelve cX9_twelve 10 (some .int)) = true := wd_of rfl rfl
theorem ywP205 : ywP 205 := yw205
theorem yw206 : wd 1393 (.code yX9_forget cX9_forget 1 none) = true := wd_of rfl rfl
theorem ywP206 : ywP 206 := yw206
theorem yw207 : wd 1688 (.code yX9_findWeights cX9_findWeights 3 none) = true := wd_of rfl rfl
theorem ywP207 : ywP 207 := yw207
theorem yw208 : wd 1692 (.code yX9_rowAt cX9_rowAt 4 (some .int)) = true := wd_of rfl rfl
theorem ywP208 : ywP 208 := yw208
theorem yw209 : wd 1704 (.code yX9_ironOf cX9_ironOf 3 (some .int)) = true := wd_of rfl rfl
theorem ywP209 : ywP 209 := yw209
theorem yw210 : wd 1708 (.code yX9_reach cX9_reach 2 none) = true := wd_of rfl rfl
theorem ywP210 : ywP 210 := yw210
theorem yw211 : wd 1700 (.code yX9_findSpread cX9_findSpread 9 none) = true := wd_of rfl rfl
theorem ywP211 : ywP 211 := yw211
theorem yw212 : wd 1712 (.code yX9_moveAll cX9_moveAll 6 none) = true := wd_of rfl rfl
theorem ywP212 : ywP 212 := yw212
theorem yw213 : wd 1696 (.code yX9_findLevels cX9_findLevels 9 (some .int)) = true := wd_of rfl rfl
theorem ywP213 : ywP 213 := yw213
theorem yw214 : wd 1683 (.code yX9_reached cX9_reached 4 (some .int)) = true := wd_of rfl rfl
theorem ywP214 : ywP 214 := yw214
theorem yw215 : wd 1728 (.code yX9_leads cX9_leads 7 (some .boolean)) = true := wd_of rfl rfl
theorem ywP215 : ywP 215 := yw215
theorem yw216 : wd 1724 (.code yX9_findToGo cX9_findToGo 6 none) = true := wd_of rfl rfl
theorem ywP216 : ywP 216 := yw216
theorem yw217 : wd 1732 (.code yX9_chooseCell cX9_chooseCell 5 none) = true := wd_of rfl rfl
theorem ywP217 : ywP 217 := yw217
theorem yw218 : wd 1720 (.code yX9_findPlan cX9_findPlan 6 none) = true := wd_of rfl rfl
theorem ywP218 : ywP 218 := yw218
theorem yw219 : wd 1716 (.code yX9_heats cX9_heats 1 (some .int)) = true := wd_of rfl rfl
theorem ywP219 : ywP 219 := yw219
theorem yw220 : wd 1736 (.code yX9_plan cX9_plan 3 (some .int)) = true := wd_of rfl rfl
theorem ywP220 : ywP 220 := yw220
theorem yw221 : wd 1740 (.code yX9_even cX9_even 6 (some .int)) = true := wd_of rfl rfl
theorem ywP221 : ywP 221 := yw221
theorem yw222 : wd 1744 (.code yX9_striker cX9_striker 2 (some .int)) = true := wd_of rfl rfl
theorem ywP222 : ywP 222 := yw222
theorem yw223 : wd 1748 (.code yX9_piece cX9_piece 3 (some .int)) = true := wd_of rfl rfl
theorem ywP223 : ywP 223 := yw223
theorem yw224 : wd 1757 (.code yX9_doneBy cX9_doneBy 9 (some .int)) = true := wd_of rfl rfl
theorem ywP224 : ywP 224 := yw224
theorem yw225 : wd 1761 (.code yX9_nextOrder cX9_nextOrder 6 (some .boolean)) = true := wd_of rfl rfl
theorem ywP225 : ywP 225 := yw225
theorem yw226 : wd 1765 (.code yX9_exchange cX9_exchange 4 none) = true := wd_of rfl rfl
theorem ywP226 : ywP 226 := yw226
theorem yw227 : wd 1753 (.code yX9_soonest cX9_soonest 7 (some .int)) = true := wd_of rfl rfl
theorem ywP227 : ywP 227 := yw227
theorem yw228 : wd 1769 (.code yX9_count cX9_count 4 (some .int)) = true := wd_of rfl rfl
theorem ywP228 : ywP 228 := yw228
theorem yw229 : wd 1773 (.code yX9_status cX9_status 1 (some .int)) = true := wd_of rfl rfl
theorem ywP229 : ywP 229 := yw229
theorem yw230 : wd 1002 (.code yJ13_bitCount_95d88 cJ13_bitCount_95d88 2 (some .int)) = true := wd_of rfl rfl
theorem ywP230 : ywP 230 := yw230
theorem yw231 : wd 1381 (.code yX9_in cX9_in 6 (some .boolean)) = true := wd_of rfl rfl
theorem ywP231 : ywP 231 := yw231
theorem yw232 : wd 1381 (.code yX9_in cX9_in 6 (some .boolean)) = true := wd_of rfl rfl
theorem ywP232 : ywP 232 := yw232
theorem yw233 : wd 1381 (.code yX9_in cX9_in 6 (some .boolean)) = true := wd_of rfl rfl
theorem ywP233 : ywP 233 := yw233
theorem yw234 : wd 469 (.code yJ0_length_8abf5 cJ0_length_8abf5 1 (some .int)) = true := wd_of rfl rfl
theorem ywP234 : ywP 234 := yw234
theorem yw235 : wd 479 (.code yJ0_charAt_5068e cJ0_charAt_5068e 2 (some .char)) = true := wd_of rfl rfl
theorem ywP235 : ywP 235 := yw235
theorem yw236 : wd 473 (.code yJ0_coder_7d493 cJ0_coder_7d493 1 (some .byte)) = true := wd_of rfl rfl
theorem ywP236 : ywP 236 := yw236
theorem yw237 : wd 483 (.code yJ0_isLatin1_aae02 cJ0_isLatin1_aae02 1 (some .boolean)) = true := wd_of rfl rfl
theorem ywP237 : ywP 237 := yw237
theorem yw238 : wd 489 (.code yJ0_checkIndex_df160 cJ0_checkIndex_df160 2 none) = true := wd_of rfl rfl
theorem ywP238 : ywP 238 := yw238
theorem yw239 : wd 486 (.code yJ1_charAt_3b067 cJ1_charAt_3b067 2 (some .char)) = true := wd_of rfl rfl
theorem ywP239 : ywP 239 := yw239
theorem yw240 : wd 507 (.code yJ2_getChar_3b067 cJ2_getChar_3b067 2 (some .char)) = true := wd_of rfl rfl
theorem ywP240 : ywP 240 := yw240
theorem yw241 : wd 503 (.code yJ2_length_9d52b cJ2_length_9d52b 1 (some .int)) = true := wd_of rfl rfl
theorem ywP241 : ywP 241 := yw241
theorem yw242 : wd 497 (.code yJ2_charAt_3b067 cJ2_charAt_3b067 2 (some .char)) = true := wd_of rfl rfl
theorem ywP242 : ywP 242 := yw242
theorem yw243 : wd 500 (.code yJ2_checkIndex_2214a cJ2_checkIndex_2214a 2 none) = true := wd_of rfl rfl
theorem ywP243 : ywP 243 := yw243
theorem yw244 : wd 783 (.code yJ7_fill_d0a16 cJ7_fill_d0a16 5 none) = true := wd_of rfl rfl
theorem ywP244 : ywP 244 := yw244
theorem yw245 : wd 389 (.code yJ7_fill_53178 cJ7_fill_53178 4 none) = true := wd_of rfl rfl
theorem ywP245 : ywP 245 := yw245
theorem yw246 : wd 597 (.code yJ7_copyOf_59c91 cJ7_copyOf_59c91 3 (some (.array .int))) = true := wd_of rfl rfl
theorem ywP246 : ywP 246 := yw246
theorem yw247 : wd 494 (.code yJ3_checkIndex_8e157 cJ3_checkIndex_8e157 3 (some .int)) = true := wd_of rfl rfl
theorem ywP247 : ywP 247 := yw247
theorem ckq0_0 : ckp 0 0 40 = true := by decide +kernel
theorem ckq0_40 : ckp 0 40 40 = true := by decide +kernel
theorem ckq0_80 : ckr 0 80 = true := by decide +kernel
theorem ckm0 : ck_m0 0 = true := ckr_0 (ckp_r ckq0_0 (ckp_r ckq0_40 (ckq0_80)))
theorem ckm1 : ck_m0 1 = true := by decide +kernel
theorem ckm2 : ck_m0 2 = true := by decide +kernel
theorem ckm3 : ck_m0 3 = true := by decide +kernel
theorem ckm4 : ck_m0 4 = true := by decide +kernel
theorem ckm5 : ck_m0 5 = true := by decide +kernel
theorem ckm6 : ck_m0 6 = true := by decide +kernel
theorem ckm7 : ck_m0 7 = true := by decide +kernel
theorem ckm8 : ck_m0 8 = true := by decide +kernel
theorem ckm9 : ck_m0 9 = true := by decide +kernel
theorem ckm10 : ck_m0 10 = true := by decide +kernel
theorem ckm11 : ck_m0 11 = true := by decide +kernel
theorem ckm12 : ck_m0 12 = true := by decide +kernel
theorem ckm13 : ck_m0 13 = true := by decide +kernel
theorem ckq14_0 : ckp 14 0 40 = true := by decide +kernel
theorem ckq14_40 : ckp 14 40 40 = true := by decide +kernel
theorem ckq14_80 : ckp 14 80 40 = true := by decide +kernel
theorem ckq14_120 : ckr 14 120 = true := by decide +kernel
theorem ckm14 : ck_m0 14 = true := ckr_0 (ckp_r ckq14_0 (ckp_r ckq14_40 (ckp_r ckq14_80 (ckq14_120))))
