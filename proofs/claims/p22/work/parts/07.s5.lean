def cz0 : gCk := (fun _ _ _ _ _ => true)
def cz1 : gCk := (fun _ _ _ _ _ => true)
def cz2 : gCk := (ck_s (fun o => .iconst (ex0 o)) 1)
def cz3 : gCk := (ck_a (ck_s (fun o => .bipush (ex0 o)) 2) (ck_c (fun o => decide ((Int8.ofInt (ex0 o)).toInt32 = Int32.ofInt (ex0 o)))))
def cz4 : gCk := (ck_a (ck_s (fun o => .sipush (ex0 o)) 3) (ck_c (fun o => decide ((Int16.ofInt (ex0 o)).toInt32 = Int32.ofInt (ex0 o)))))
def cz5 : gCk := (ck_a (ck_s (fun o => .ldc o.2.2.1) 2) (fun own _ _ _ o => wd o.2.2.2.1 (.constant own o.2.2.1 (Int32.ofInt (ex0 o)))))
def cz6 : gCk := (ck_a (ck_s (fun o => .lconst (if ex0 o = 0 then 0 else 1)) 1) (ck_c (fun o => decide (ex0 o = 0 ∨ ex0 o = 1))))
def cz7 : gCk := (ck_a (ck_s (fun o => .ldc2_w o.2.2.1) 3) (fun own _ _ _ o => wd o.2.2.2.1 (.constantLong own o.2.2.1 (Int64.ofInt (ex0 o)))))
def cz8 : gCk := (ck_a (ck_s (fun o => .iload_n (fn4 o.2.2.1)) 1) (ck_c (fun o => decide (o.2.2.1 < 4))))
def cz9 : gCk := (ck_s (fun o => .iload o.2.2.1) 2)
def cz10 : gCk := (ck_a (ck_s (fun o => .lload_n (fn4 o.2.2.1)) 1) (ck_c (fun o => decide (o.2.2.1 < 4))))
def cz11 : gCk := (ck_s (fun o => .lload o.2.2.1) 2)
def cz12 : gCk := (ck_a (ck_s (fun o => .aload_n (fn4 o.2.2.1)) 1) (ck_c (fun o => decide (o.2.2.1 < 4))))
def cz13 : gCk := (ck_s (fun o => .aload o.2.2.1) 2)
def cz14 : gCk := (ck_a (ck_s (fun o => .istore_n (fn4 o.2.2.1)) 1) (ck_c (fun o => decide (o.2.2.1 < 4))))
def cz15 : gCk := (ck_s (fun o => .istore o.2.2.1) 2)
def cz16 : gCk := (ck_a (ck_s (fun o => .lstore_n (fn4 o.2.2.1)) 1) (ck_c (fun o => decide (o.2.2.1 < 4))))
def cz17 : gCk := (ck_s (fun o => .lstore o.2.2.1) 2)
def cz18 : gCk := (ck_a (ck_s (fun o => .astore_n (fn4 o.2.2.1)) 1) (ck_c (fun o => decide (o.2.2.1 < 4))))
def cz19 : gCk := (ck_s (fun o => .astore o.2.2.1) 2)
def cz20 : gCk := (ck_s (fun o => .iinc o.2.2.1 (ex0 o)) 3)
def cz21 : gCk := (ck_s (fun _ => .iadd) 1)
def cz22 : gCk := (ck_s (fun _ => .isub) 1)
def cz23 : gCk := (ck_s (fun _ => .imul) 1)
def cz24 : gCk := (ck_s (fun _ => .iand) 1)
def cz25 : gCk := (ck_s (fun _ => .ior) 1)
def cz26 : gCk := (ck_s (fun _ => .ixor) 1)
def cz27 : gCk := (ck_s (fun _ => .idiv) 1)
def cz28 : gCk := (ck_s (fun _ => .irem) 1)
def cz29 : gCk := (ck_s (fun _ => .ineg) 1)
def cz30 : gCk := (ck_s (fun _ => .ishl) 1)
def cz31 : gCk := (ck_s (fun _ => .ishr) 1)
def cz32 : gCk := (ck_s (fun _ => .ladd) 1)
def cz33 : gCk := (ck_s (fun _ => .lsub) 1)
def cz34 : gCk := (ck_s (fun _ => .lmul) 1)
def cz35 : gCk := (ck_s (fun _ => .land) 1)
def cz36 : gCk := (ck_s (fun _ => .lor) 1)
def cz37 : gCk := (ck_s (fun _ => .lxor) 1)
def cz38 : gCk := (ck_s (fun _ => .ldiv) 1)
def cz39 : gCk := (ck_s (fun _ => .lrem) 1)
def cz40 : gCk := (ck_s (fun _ => .lneg) 1)
def cz41 : gCk := (ck_s (fun _ => .lshl) 1)
def cz42 : gCk := (ck_s (fun _ => .lushr) 1)
def cz43 : gCk := (ck_s (fun _ => .lcmp) 1)
def cz44 : gCk := (ck_s (fun _ => .i2l) 1)
def cz45 : gCk := (ck_s (fun _ => .l2i) 1)
def cz46 : gCk := (ck_s (fun _ => .i2b) 1)
def cz47 : gCk := (ck_s (fun _ => .i2c) 1)
def cz48 : gCk := (ck_s (fun _ => .dup) 1)
def cz49 : gCk := (ck_s (fun _ => .dup2) 1)
def cz50 : gCk := (ck_s (fun _ => .pop) 1)
def cz51 : gCk := (fun _ _ cc pc o => decide (decode cc pc = .ok (.ifCond .eq ((o.2.2.1 : Int) - (pc : Int)), 3)) && decide (o.2.1 = pc + 3))
def cz52 : gCk := (fun _ _ cc pc o => decide (decode cc pc = .ok (.ifCond .ne ((o.2.2.1 : Int) - (pc : Int)), 3)) && decide (o.2.1 = pc + 3))
def cz53 : gCk := (fun _ _ cc pc o => decide (decode cc pc = .ok (.ifCond .lt ((o.2.2.1 : Int) - (pc : Int)), 3)) && decide (o.2.1 = pc + 3))
def cz54 : gCk := (fun _ _ cc pc o => decide (decode cc pc = .ok (.ifCond .ge ((o.2.2.1 : Int) - (pc : Int)), 3)) && decide (o.2.1 = pc + 3))
def cz55 : gCk := (fun _ _ cc pc o => decide (decode cc pc = .ok (.ifCond .gt ((o.2.2.1 : Int) - (pc : Int)), 3)) && decide (o.2.1 = pc + 3))
def cz56 : gCk := (fun _ _ cc pc o => decide (decode cc pc = .ok (.ifCond .le ((o.2.2.1 : Int) - (pc : Int)), 3)) && decide (o.2.1 = pc + 3))
def cz57 : gCk := (fun _ _ cc pc o => decide (decode cc pc = .ok (.if_icmp .eq ((o.2.2.1 : Int) - (pc : Int)), 3)) && decide (o.2.1 = pc + 3))
def cz58 : gCk := (fun _ _ cc pc o => decide (decode cc pc = .ok (.if_icmp .ne ((o.2.2.1 : Int) - (pc : Int)), 3)) && decide (o.2.1 = pc + 3))
def cz59 : gCk := (fun _ _ cc pc o => decide (decode cc pc = .ok (.if_icmp .lt ((o.2.2.1 : Int) - (pc : Int)), 3)) && decide (o.2.1 = pc + 3))
def cz60 : gCk := (fun _ _ cc pc o => decide (decode cc pc = .ok (.if_icmp .ge ((o.2.2.1 : Int) - (pc : Int)), 3)) && decide (o.2.1 = pc + 3))
def cz61 : gCk := (fun _ _ cc pc o => decide (decode cc pc = .ok (.if_icmp .gt ((o.2.2.1 : Int) - (pc : Int)), 3)) && decide (o.2.1 = pc + 3))
def cz62 : gCk := (fun _ _ cc pc o => decide (decode cc pc = .ok (.if_icmp .le ((o.2.2.1 : Int) - (pc : Int)), 3)) && decide (o.2.1 = pc + 3))
def cz63 : gCk := (fun _ _ cc pc o => decide (decode cc pc = .ok (.goto ((o.2.1 : Int) - (pc : Int)), 3)))
def cz64 : gCk := (fun _ _ cc pc o => decide (decode cc pc = .ok (.ifnull ((o.2.2.1 : Int) - (pc : Int)), 3)) && decide (o.2.1 = pc + 3))
def cz65 : gCk := (fun _ _ cc pc o => decide (decode cc pc = .ok (.ifnonnull ((o.2.2.1 : Int) - (pc : Int)), 3)) && decide (o.2.1 = pc + 3))
def cz66 : gCk := (ck_s (fun _ => .aconst_null) 1)
abbrev cz67 : gCk := ck67
abbrev cz68 : gCk := ck68
abbrev cz69 : gCk := ck69
abbrev cz70 : gCk := ck70
abbrev cz71 : gCk := ck71
abbrev cz72 : gCk := ck72
def cz73 : gCk := (ck_s (fun _ => .iaload) 1)
def cz74 : gCk := (ck_s (fun _ => .baload) 1)
def cz75 : gCk := (ck_s (fun _ => .baload) 1)
def cz76 : gCk := (ck_s (fun _ => .laload) 1)
def cz77 : gCk := (ck_s (fun _ => .aaload) 1)
def cz78 : gCk := (ck_s (fun _ => .iastore) 1)
def cz79 : gCk := (ck_s (fun _ => .bastore) 1)
def cz80 : gCk := (ck_s (fun _ => .bastore) 1)
def cz81 : gCk := (ck_s (fun _ => .lastore) 1)
def cz82 : gCk := (ck_s (fun _ => .aastore) 1)
def cz83 : gCk := (ck_s (fun _ => .arraylength) 1)
abbrev cz84 : gCk := ck84
abbrev cz85 : gCk := ck85
abbrev cz86 : gCk := ck86
abbrev cz87 : gCk := ck87
def cz88 : gCk := (fun own _ cc pc o => decide (decode cc pc = .ok (.getstatic o.2.2.2.1, 3)) && (decide (o.2.1 = pc + 3) && ((decide (o.2.2.1 = 1) && wd (ex0 o) (.fieldLink own o.2.2.2.1 "HotIron" "TERM_LOW" "[I")) || ((decide (o.2.2.1 = 2) && wd (ex0 o) (.fieldLink own o.2.2.2.1 "HotIron" "TERM_HIGH" "[I")) || (decide (o.2.2.1 = 3) && wd (ex0 o) (.fieldLink own o.2.2.2.1 "HotIron" "ALL_TWO" "[I"))))))
def cz89 : gCk := (fun own _ cc pc o => match o.2.2.2.2.2 with
    | [i1, i2, i3] => decide (decode cc pc = .ok (.invokespecial o.2.2.1, 3)) && (decide (o.2.1 = pc + 3) && (wd i1 (.methodLink own o.2.2.1 objectInit) && (wd i2 (.instanceMethod objectInit) && wd i3 (.code objectInit ⟨#[0xb1]⟩ 1 none))))
    | _ => false)
abbrev cz90 : gCk := ck90
abbrev cz91 : gCk := ck_ts
abbrev cz92 : gCk := ck92
abbrev cz93 : gCk := ck93
abbrev cz94 : gCk := ck94
abbrev cz95 : gCk := ck95
abbrev cz96 : gCk := ck96
def cz97 : gCk := (ck_s (fun _ => .pop2) 1)
def cz98 : gCk := (fun own _ cc pc o => decide (decode cc pc = .ok (.getstatic o.2.2.2.1, 3)) && (decide (o.2.1 = pc + 3) && (decide (o.2.2.1 = 3) && wsp (.fieldLinkNest own o.2.2.2.1 "HotIron" "ALL_TWO" "[I" "HotIron"))))
def cz99 : gCk := (ck_a (ck_s (fun o => .ldc_w o.2.2.1) 3) (fun own _ _ _ o => wd o.2.2.2.1 (.constant own o.2.2.1 (Int32.ofInt (ex0 o)))))
def cz100 : gCk := (fun own _ cc pc o => match o.2.2.2.2.2 with
    | [i1, i2, i3, i4] => decide (decode cc pc = .ok (.invokestatic o.2.2.1, 3)) && (decide (o.2.1 = pc + 3) && (wd i1 (.methodLink own o.2.2.1 Lib.Math.max.name) && (wd i2 (.static Lib.Math.max.name) && (wd i3 (.initialized "java/lang/Math") && wd i4 (.code Lib.Math.max.name Lib.Math.max.code 2 (some .int))))))
    | _ => false)
def cz101 : gCk := (fun own _ cc pc o => match o.2.2.2.2.2 with
    | [i1, i2, i3, i4] => decide (decode cc pc = .ok (.invokestatic o.2.2.1, 3)) && (decide (o.2.1 = pc + 3) && (wd i1 (.methodLink own o.2.2.1 Lib.Math.min.name) && (wd i2 (.static Lib.Math.min.name) && (wd i3 (.initialized "java/lang/Math") && wd i4 (.code Lib.Math.min.name Lib.Math.min.code 2 (some .int))))))
    | _ => false)
def cz102 : gCk := (fun own _ cc pc o => match o.2.2.2.2.2 with
    | [i1, i2, i3, i4] => decide (decode cc pc = .ok (.invokestatic o.2.2.1, 3)) && (decide (o.2.1 = pc + 3) && (wd i1 (.methodLink own o.2.2.1 Lib.Math.abs.name) && (wd i2 (.static Lib.Math.abs.name) && (wd i3 (.initialized "java/lang/Math") && wd i4 (.code Lib.Math.abs.name Lib.Math.abs.code 1 (some .int))))))
    | _ => false)
def cz103 : gCk := (fun _ _ _ _ _ => true)
abbrev cz104 : gCk := ck104
def cz105 : gCk := (ck_a (ck_s (fun o => .aload_n (fn4 o.2.2.1)) 1) (ck_c (fun o => decide (o.2.2.1 < 4))))
def cz106 : gCk := (ckFL "value" "[B")
def cz107 : gCk := (ckFL "coder" "B")
def cz108 : gCk := (ck_s (fun _ => .arraylength) 1)
def cz109 : gCk := (ck_s (fun _ => .baload) 1)
def cz110 : gCk := (ckGS "java/lang/String" "COMPACT_STRINGS" "Z")
def cz111 : gCk := (ckGS "jdk/internal/util/Preconditions" "SIOOBE_FORMATTER" "Ljava/util/function/BiFunction;")
abbrev cz112 : gCk := ck112
abbrev cz113 : gCk := ck113
def mCs : List gCk := [cz0, cz1, cz2, cz3, cz4, cz5, cz6, cz7, cz8, cz9, cz10, cz11, cz12, cz13, cz14, cz15, cz16, cz17, cz18, cz19, cz20, cz21, cz22, cz23, cz24, cz25, cz26, cz27, cz28, cz29, cz30, cz31, cz32, cz33, cz34, cz35, cz36, cz37, cz38, cz39, cz40, cz41, cz42, cz43, cz44, cz45, cz46, cz47, cz48, cz49, cz50, cz51, cz52, cz53, cz54, cz55, cz56, cz57, cz58, cz59, cz60, cz61, cz62, cz63, cz64, cz65, cz66, cz67, cz68, cz69, cz70, cz71, cz72, cz73, cz74, cz75, cz76, cz77, cz78, cz79, cz80, cz81, cz82, cz83, cz84, cz85, cz86, cz87, cz88, cz89, cz90, cz91, cz92, cz93, cz94, cz95, cz96, cz97, cz98, cz99, cz100, cz101, cz102, cz103, cz104, cz105, cz106, cz107, cz108, cz109, cz110, cz111, cz112, cz113]
theorem so_no {ck : gCk} : sOK ck f_bad := by
  intro E p l e Rm s m args below meth c own nm cc nL ret n0 u0 Q pc o ls st S I L R q hC hk hf
  cases hf
set_option maxRecDepth 100000 in
theorem so_all : ∀ q ∈ mCs.zip mFs, sOK q.1 q.2 := List.forall_mem_cons.mpr ⟨so_no, List.forall_mem_cons.mpr ⟨so_no, List.forall_mem_cons.mpr ⟨so2, List.forall_mem_cons.mpr ⟨so3, List.forall_mem_cons.mpr ⟨so4, List.forall_mem_cons.mpr ⟨so5, List.forall_mem_cons.mpr ⟨so6, List.forall_mem_cons.mpr ⟨so7, List.forall_mem_cons.mpr ⟨so8, List.forall_mem_cons.mpr ⟨so9, List.forall_mem_cons.mpr ⟨so10, List.forall_mem_cons.mpr ⟨so11, List.forall_mem_cons.mpr ⟨so12, List.forall_mem_cons.mpr ⟨so13, List.forall_mem_cons.mpr ⟨so14, List.forall_mem_cons.mpr ⟨so15, List.forall_mem_cons.mpr ⟨so16, List.forall_mem_cons.mpr ⟨so17, List.forall_mem_cons.mpr ⟨so18, List.forall_mem_cons.mpr ⟨so19, List.forall_mem_cons.mpr ⟨so20, List.forall_mem_cons.mpr ⟨so21, List.forall_mem_cons.mpr ⟨so22, List.forall_mem_cons.mpr ⟨so23, List.forall_mem_cons.mpr ⟨so24, List.forall_mem_cons.mpr ⟨so25, List.forall_mem_cons.mpr ⟨so26, List.forall_mem_cons.mpr ⟨so27, List.forall_mem_cons.mpr ⟨so28, List.forall_mem_cons.mpr ⟨so29, List.forall_mem_cons.mpr ⟨so30, List.forall_mem_cons.mpr ⟨so31, List.forall_mem_cons.mpr ⟨so32, List.forall_mem_cons.mpr ⟨so33, List.forall_mem_cons.mpr ⟨so34, List.forall_mem_cons.mpr ⟨so35, List.forall_mem_cons.mpr ⟨so36, List.forall_mem_cons.mpr ⟨so37, List.forall_mem_cons.mpr ⟨so38, List.forall_mem_cons.mpr ⟨so39, List.forall_mem_cons.mpr ⟨so40, List.forall_mem_cons.mpr ⟨so41, List.forall_mem_cons.mpr ⟨so42, List.forall_mem_cons.mpr ⟨so43, List.forall_mem_cons.mpr ⟨so44, List.forall_mem_cons.mpr ⟨so45, List.forall_mem_cons.mpr ⟨so46, List.forall_mem_cons.mpr ⟨so47, List.forall_mem_cons.mpr ⟨so48, List.forall_mem_cons.mpr ⟨so49, List.forall_mem_cons.mpr ⟨so50, List.forall_mem_cons.mpr ⟨so51, List.forall_mem_cons.mpr ⟨so52, List.forall_mem_cons.mpr ⟨so53, List.forall_mem_cons.mpr ⟨so54, List.forall_mem_cons.mpr ⟨so55, List.forall_mem_cons.mpr ⟨so56, List.forall_mem_cons.mpr ⟨so57, List.forall_mem_cons.mpr ⟨so58, List.forall_mem_cons.mpr ⟨so59, List.forall_mem_cons.mpr ⟨so60, List.forall_mem_cons.mpr ⟨so61, List.forall_mem_cons.mpr ⟨so62, List.forall_mem_cons.mpr ⟨so63, List.forall_mem_cons.mpr ⟨so64, List.forall_mem_cons.mpr ⟨so65, List.forall_mem_cons.mpr ⟨so66, List.forall_mem_cons.mpr ⟨so67, List.forall_mem_cons.mpr ⟨so68, List.forall_mem_cons.mpr ⟨so69, List.forall_mem_cons.mpr ⟨so70, List.forall_mem_cons.mpr ⟨so71, List.forall_mem_cons.mpr ⟨so72, List.forall_mem_cons.mpr ⟨so73, List.forall_mem_cons.mpr ⟨so74, List.forall_mem_cons.mpr ⟨so75, List.forall_mem_cons.mpr ⟨so76, List.forall_mem_cons.mpr ⟨so77, List.forall_mem_cons.mpr ⟨so78, List.forall_mem_cons.mpr ⟨so79, List.forall_mem_cons.mpr ⟨so80, List.forall_mem_cons.mpr ⟨so81, List.forall_mem_cons.mpr ⟨so82, List.forall_mem_cons.mpr ⟨so83, List.forall_mem_cons.mpr ⟨so84, List.forall_mem_cons.mpr ⟨so85, List.forall_mem_cons.mpr ⟨so86, List.forall_mem_cons.mpr ⟨so87, List.forall_mem_cons.mpr ⟨so88, List.forall_mem_cons.mpr ⟨so89, List.forall_mem_cons.mpr ⟨so90, List.forall_mem_cons.mpr ⟨so91, List.forall_mem_cons.mpr ⟨so92, List.forall_mem_cons.mpr ⟨so93, List.forall_mem_cons.mpr ⟨so94, List.forall_mem_cons.mpr ⟨so95, List.forall_mem_cons.mpr ⟨so96, List.forall_mem_cons.mpr ⟨so97, List.forall_mem_cons.mpr ⟨so98, List.forall_mem_cons.mpr ⟨so99, List.forall_mem_cons.mpr ⟨so100, List.forall_mem_cons.mpr ⟨so101, List.forall_mem_cons.mpr ⟨so102, List.forall_mem_cons.mpr ⟨so_no, List.forall_mem_cons.mpr ⟨so104, List.forall_mem_cons.mpr ⟨so105, List.forall_mem_cons.mpr ⟨so106, List.forall_mem_cons.mpr ⟨so107, List.forall_mem_cons.mpr ⟨so108, List.forall_mem_cons.mpr ⟨so109, List.forall_mem_cons.mpr ⟨so110, List.forall_mem_cons.mpr ⟨so111, List.forall_mem_cons.mpr ⟨so112, List.forall_mem_cons.mpr ⟨so113, fun _ h => absurd h List.not_mem_nil⟩⟩⟩⟩⟩⟩⟩⟩⟩⟩⟩⟩⟩⟩⟩⟩⟩⟩⟩⟩⟩⟩⟩⟩⟩⟩⟩⟩⟩⟩⟩⟩⟩⟩⟩⟩⟩⟩⟩⟩⟩⟩⟩⟩⟩⟩⟩⟩⟩⟩⟩⟩⟩⟩⟩⟩⟩⟩⟩⟩⟩⟩⟩⟩⟩⟩⟩⟩⟩⟩⟩⟩⟩⟩⟩⟩⟩⟩⟩⟩⟩⟩⟩⟩⟩⟩⟩⟩⟩⟩⟩⟩⟩⟩⟩⟩⟩⟩⟩⟩⟩⟩⟩⟩⟩⟩⟩⟩⟩⟩⟩⟩⟩⟩
theorem mo0 : sMo (f_bad) := by
  intro o ls st S I L R q h
  unfold f_bad at h
  repeat' split at h
  all_goals first
    | (cases h; done)
    | (cases h; exact ⟨rfl, Nat.le_refl _, Nat.le_refl _⟩)
    | (cases h; exact ⟨st1_len _ _ _, Nat.le_refl _, Nat.le_refl _⟩)
    | (cases h; exact ⟨st2_len _ _ _ (by assumption), Nat.le_refl _, Nat.le_refl _⟩)
    | (cases h; exact ⟨rfl, Nat.le_add_right _ _, Nat.le_add_right _ _⟩)
theorem mo1 : sMo (f_ic) := by
  intro o ls st S I L R q h
  unfold f_ic at h
  repeat' split at h
  all_goals first
    | (cases h; done)
    | (cases h; exact ⟨rfl, Nat.le_refl _, Nat.le_refl _⟩)
    | (cases h; exact ⟨st1_len _ _ _, Nat.le_refl _, Nat.le_refl _⟩)
    | (cases h; exact ⟨st2_len _ _ _ (by assumption), Nat.le_refl _, Nat.le_refl _⟩)
    | (cases h; exact ⟨rfl, Nat.le_add_right _ _, Nat.le_add_right _ _⟩)
theorem mo2 : sMo (f_lc) := by
  intro o ls st S I L R q h
  unfold f_lc at h
  repeat' split at h
  all_goals first
    | (cases h; done)
    | (cases h; exact ⟨rfl, Nat.le_refl _, Nat.le_refl _⟩)
    | (cases h; exact ⟨st1_len _ _ _, Nat.le_refl _, Nat.le_refl _⟩)
    | (cases h; exact ⟨st2_len _ _ _ (by assumption), Nat.le_refl _, Nat.le_refl _⟩)
    | (cases h; exact ⟨rfl, Nat.le_add_right _ _, Nat.le_add_right _ _⟩)
theorem mo3 : sMo (f_il) := by
  intro o ls st S I L R q h
  unfold f_il at h
  repeat' split at h
  all_goals first
    | (cases h; done)
    | (cases h; exact ⟨rfl, Nat.le_refl _, Nat.le_refl _⟩)
    | (cases h; exact ⟨st1_len _ _ _, Nat.le_refl _, Nat.le_refl _⟩)
    | (cases h; exact ⟨st2_len _ _ _ (by assumption), Nat.le_refl _, Nat.le_refl _⟩)
    | (cases h; exact ⟨rfl, Nat.le_add_right _ _, Nat.le_add_right _ _⟩)
theorem mo4 : sMo (f_ll) := by
  intro o ls st S I L R q h
  unfold f_ll at h
  repeat' split at h
  all_goals first
    | (cases h; done)
    | (cases h; exact ⟨rfl, Nat.le_refl _, Nat.le_refl _⟩)
    | (cases h; exact ⟨st1_len _ _ _, Nat.le_refl _, Nat.le_refl _⟩)
    | (cases h; exact ⟨st2_len _ _ _ (by assumption), Nat.le_refl _, Nat.le_refl _⟩)
    | (cases h; exact ⟨rfl, Nat.le_add_right _ _, Nat.le_add_right _ _⟩)
theorem mo5 : sMo (f_al) := by
  intro o ls st S I L R q h
  unfold f_al at h
  repeat' split at h
  all_goals first
    | (cases h; done)
    | (cases h; exact ⟨rfl, Nat.le_refl _, Nat.le_refl _⟩)
    | (cases h; exact ⟨st1_len _ _ _, Nat.le_refl _, Nat.le_refl _⟩)
    | (cases h; exact ⟨st2_len _ _ _ (by assumption), Nat.le_refl _, Nat.le_refl _⟩)
    | (cases h; exact ⟨rfl, Nat.le_add_right _ _, Nat.le_add_right _ _⟩)
theorem mo6 : sMo (f_is) := by
  intro o ls st S I L R q h
  unfold f_is at h
  repeat' split at h
  all_goals first
    | (cases h; done)
    | (cases h; exact ⟨rfl, Nat.le_refl _, Nat.le_refl _⟩)
    | (cases h; exact ⟨st1_len _ _ _, Nat.le_refl _, Nat.le_refl _⟩)
    | (cases h; exact ⟨st2_len _ _ _ (by assumption), Nat.le_refl _, Nat.le_refl _⟩)
    | (cases h; exact ⟨rfl, Nat.le_add_right _ _, Nat.le_add_right _ _⟩)
theorem mo7 : sMo (f_ls) := by
  intro o ls st S I L R q h
  unfold f_ls at h
  repeat' split at h
  all_goals first
    | (cases h; done)
    | (cases h; exact ⟨rfl, Nat.le_refl _, Nat.le_refl _⟩)
    | (cases h; exact ⟨st1_len _ _ _, Nat.le_refl _, Nat.le_refl _⟩)
    | (cases h; exact ⟨st2_len _ _ _ (by assumption), Nat.le_refl _, Nat.le_refl _⟩)
    | (cases h; exact ⟨rfl, Nat.le_add_right _ _, Nat.le_add_right _ _⟩)
theorem mo8 : sMo (f_as) := by
  intro o ls st S I L R q h
  unfold f_as at h
  repeat' split at h
  all_goals first
    | (cases h; done)
    | (cases h; exact ⟨rfl, Nat.le_refl _, Nat.le_refl _⟩)
    | (cases h; exact ⟨st1_len _ _ _, Nat.le_refl _, Nat.le_refl _⟩)
    | (cases h; exact ⟨st2_len _ _ _ (by assumption), Nat.le_refl _, Nat.le_refl _⟩)
    | (cases h; exact ⟨rfl, Nat.le_add_right _ _, Nat.le_add_right _ _⟩)
theorem mo9 : sMo (f_ii) := by
  intro o ls st S I L R q h
  unfold f_ii at h
  repeat' split at h
  all_goals first
    | (cases h; done)
    | (cases h; exact ⟨rfl, Nat.le_refl _, Nat.le_refl _⟩)
    | (cases h; exact ⟨st1_len _ _ _, Nat.le_refl _, Nat.le_refl _⟩)
    | (cases h; exact ⟨st2_len _ _ _ (by assumption), Nat.le_refl _, Nat.le_refl _⟩)
    | (cases h; exact ⟨rfl, Nat.le_add_right _ _, Nat.le_add_right _ _⟩)
theorem mo10 : sMo (f_bi (fun x y => x + y)) := by
  intro o ls st S I L R q h
  unfold f_bi at h
  repeat' split at h
  all_goals first
    | (cases h; done)
    | (cases h; exact ⟨rfl, Nat.le_refl _, Nat.le_refl _⟩)
    | (cases h; exact ⟨st1_len _ _ _, Nat.le_refl _, Nat.le_refl _⟩)
    | (cases h; exact ⟨st2_len _ _ _ (by assumption), Nat.le_refl _, Nat.le_refl _⟩)
    | (cases h; exact ⟨rfl, Nat.le_add_right _ _, Nat.le_add_right _ _⟩)
theorem mo11 : sMo (f_bi (fun x y => x - y)) := by
  intro o ls st S I L R q h
  unfold f_bi at h
  repeat' split at h
  all_goals first
    | (cases h; done)
    | (cases h; exact ⟨rfl, Nat.le_refl _, Nat.le_refl _⟩)
    | (cases h; exact ⟨st1_len _ _ _, Nat.le_refl _, Nat.le_refl _⟩)
    | (cases h; exact ⟨st2_len _ _ _ (by assumption), Nat.le_refl _, Nat.le_refl _⟩)
    | (cases h; exact ⟨rfl, Nat.le_add_right _ _, Nat.le_add_right _ _⟩)
theorem mo12 : sMo (f_bi (fun x y => x * y)) := by
  intro o ls st S I L R q h
  unfold f_bi at h
  repeat' split at h
  all_goals first
    | (cases h; done)
    | (cases h; exact ⟨rfl, Nat.le_refl _, Nat.le_refl _⟩)
    | (cases h; exact ⟨st1_len _ _ _, Nat.le_refl _, Nat.le_refl _⟩)
    | (cases h; exact ⟨st2_len _ _ _ (by assumption), Nat.le_refl _, Nat.le_refl _⟩)
    | (cases h; exact ⟨rfl, Nat.le_add_right _ _, Nat.le_add_right _ _⟩)
theorem mo13 : sMo (f_bi (fun x y => x &&& y)) := by
  intro o ls st S I L R q h
  unfold f_bi at h
  repeat' split at h
  all_goals first
    | (cases h; done)
    | (cases h; exact ⟨rfl, Nat.le_refl _, Nat.le_refl _⟩)
    | (cases h; exact ⟨st1_len _ _ _, Nat.le_refl _, Nat.le_refl _⟩)
    | (cases h; exact ⟨st2_len _ _ _ (by assumption), Nat.le_refl _, Nat.le_refl _⟩)
    | (cases h; exact ⟨rfl, Nat.le_add_right _ _, Nat.le_add_right _ _⟩)
theorem mo14 : sMo (f_bi (fun x y => x ||| y)) := by
  intro o ls st S I L R q h
  unfold f_bi at h
  repeat' split at h
  all_goals first
    | (cases h; done)
    | (cases h; exact ⟨rfl, Nat.le_refl _, Nat.le_refl _⟩)
    | (cases h; exact ⟨st1_len _ _ _, Nat.le_refl _, Nat.le_refl _⟩)
    | (cases h; exact ⟨st2_len _ _ _ (by assumption), Nat.le_refl _, Nat.le_refl _⟩)
    | (cases h; exact ⟨rfl, Nat.le_add_right _ _, Nat.le_add_right _ _⟩)
theorem mo15 : sMo (f_bi (fun x y => x ^^^ y)) := by
  intro o ls st S I L R q h
  unfold f_bi at h
  repeat' split at h
  all_goals first
    | (cases h; done)
    | (cases h; exact ⟨rfl, Nat.le_refl _, Nat.le_refl _⟩)
    | (cases h; exact ⟨st1_len _ _ _, Nat.le_refl _, Nat.le_refl _⟩)
    | (cases h; exact ⟨st2_len _ _ _ (by assumption), Nat.le_refl _, Nat.le_refl _⟩)
    | (cases h; exact ⟨rfl, Nat.le_add_right _ _, Nat.le_add_right _ _⟩)
theorem mo16 : sMo (f_bd (fun x y => x / y)) := by
  intro o ls st S I L R q h
  unfold f_bd at h
  repeat' split at h
  all_goals first
    | (cases h; done)
    | (cases h; exact ⟨rfl, Nat.le_refl _, Nat.le_refl _⟩)
    | (cases h; exact ⟨st1_len _ _ _, Nat.le_refl _, Nat.le_refl _⟩)
    | (cases h; exact ⟨st2_len _ _ _ (by assumption), Nat.le_refl _, Nat.le_refl _⟩)
    | (cases h; exact ⟨rfl, Nat.le_add_right _ _, Nat.le_add_right _ _⟩)
theorem mo17 : sMo (f_bd (fun x y => x - x / y * y)) := by
  intro o ls st S I L R q h
  unfold f_bd at h
  repeat' split at h
  all_goals first
    | (cases h; done)
    | (cases h; exact ⟨rfl, Nat.le_refl _, Nat.le_refl _⟩)
    | (cases h; exact ⟨st1_len _ _ _, Nat.le_refl _, Nat.le_refl _⟩)
    | (cases h; exact ⟨st2_len _ _ _ (by assumption), Nat.le_refl _, Nat.le_refl _⟩)
    | (cases h; exact ⟨rfl, Nat.le_add_right _ _, Nat.le_add_right _ _⟩)
theorem mo18 : sMo (f_ui (fun x => -x)) := by
  intro o ls st S I L R q h
  unfold f_ui at h
  repeat' split at h
  all_goals first
    | (cases h; done)
    | (cases h; exact ⟨rfl, Nat.le_refl _, Nat.le_refl _⟩)
    | (cases h; exact ⟨st1_len _ _ _, Nat.le_refl _, Nat.le_refl _⟩)
    | (cases h; exact ⟨st2_len _ _ _ (by assumption), Nat.le_refl _, Nat.le_refl _⟩)
    | (cases h; exact ⟨rfl, Nat.le_add_right _ _, Nat.le_add_right _ _⟩)
theorem mo19 : sMo (f_bi (fun x y => x <<< (y &&& 31))) := by
  intro o ls st S I L R q h
  unfold f_bi at h
  repeat' split at h
  all_goals first
    | (cases h; done)
    | (cases h; exact ⟨rfl, Nat.le_refl _, Nat.le_refl _⟩)
    | (cases h; exact ⟨st1_len _ _ _, Nat.le_refl _, Nat.le_refl _⟩)
    | (cases h; exact ⟨st2_len _ _ _ (by assumption), Nat.le_refl _, Nat.le_refl _⟩)
    | (cases h; exact ⟨rfl, Nat.le_add_right _ _, Nat.le_add_right _ _⟩)
theorem mo20 : sMo (f_bi (fun x y => x >>> (y &&& 31))) := by
  intro o ls st S I L R q h
  unfold f_bi at h
  repeat' split at h
  all_goals first
    | (cases h; done)
    | (cases h; exact ⟨rfl, Nat.le_refl _, Nat.le_refl _⟩)
    | (cases h; exact ⟨st1_len _ _ _, Nat.le_refl _, Nat.le_refl _⟩)
    | (cases h; exact ⟨st2_len _ _ _ (by assumption), Nat.le_refl _, Nat.le_refl _⟩)
    | (cases h; exact ⟨rfl, Nat.le_add_right _ _, Nat.le_add_right _ _⟩)
theorem mo21 : sMo (f_bl (fun x y => x + y)) := by
  intro o ls st S I L R q h
  unfold f_bl at h
  repeat' split at h
  all_goals first
    | (cases h; done)
    | (cases h; exact ⟨rfl, Nat.le_refl _, Nat.le_refl _⟩)
    | (cases h; exact ⟨st1_len _ _ _, Nat.le_refl _, Nat.le_refl _⟩)
    | (cases h; exact ⟨st2_len _ _ _ (by assumption), Nat.le_refl _, Nat.le_refl _⟩)
    | (cases h; exact ⟨rfl, Nat.le_add_right _ _, Nat.le_add_right _ _⟩)
theorem mo22 : sMo (f_bl (fun x y => x - y)) := by
  intro o ls st S I L R q h
  unfold f_bl at h
  repeat' split at h
  all_goals first
    | (cases h; done)
    | (cases h; exact ⟨rfl, Nat.le_refl _, Nat.le_refl _⟩)
    | (cases h; exact ⟨st1_len _ _ _, Nat.le_refl _, Nat.le_refl _⟩)
    | (cases h; exact ⟨st2_len _ _ _ (by assumption), Nat.le_refl _, Nat.le_refl _⟩)
    | (cases h; exact ⟨rfl, Nat.le_add_right _ _, Nat.le_add_right _ _⟩)
theorem mo23 : sMo (f_bl (fun x y => x * y)) := by
  intro o ls st S I L R q h
  unfold f_bl at h
  repeat' split at h
  all_goals first
    | (cases h; done)
    | (cases h; exact ⟨rfl, Nat.le_refl _, Nat.le_refl _⟩)
    | (cases h; exact ⟨st1_len _ _ _, Nat.le_refl _, Nat.le_refl _⟩)
    | (cases h; exact ⟨st2_len _ _ _ (by assumption), Nat.le_refl _, Nat.le_refl _⟩)
    | (cases h; exact ⟨rfl, Nat.le_add_right _ _, Nat.le_add_right _ _⟩)
theorem mo24 : sMo (f_bl (fun x y => x &&& y)) := by
  intro o ls st S I L R q h
  unfold f_bl at h
  repeat' split at h
  all_goals first
    | (cases h; done)
    | (cases h; exact ⟨rfl, Nat.le_refl _, Nat.le_refl _⟩)
    | (cases h; exact ⟨st1_len _ _ _, Nat.le_refl _, Nat.le_refl _⟩)
    | (cases h; exact ⟨st2_len _ _ _ (by assumption), Nat.le_refl _, Nat.le_refl _⟩)
    | (cases h; exact ⟨rfl, Nat.le_add_right _ _, Nat.le_add_right _ _⟩)
theorem mo25 : sMo (f_bl (fun x y => x ||| y)) := by
  intro o ls st S I L R q h
  unfold f_bl at h
  repeat' split at h
  all_goals first
    | (cases h; done)
    | (cases h; exact ⟨rfl, Nat.le_refl _, Nat.le_refl _⟩)
    | (cases h; exact ⟨st1_len _ _ _, Nat.le_refl _, Nat.le_refl _⟩)
    | (cases h; exact ⟨st2_len _ _ _ (by assumption), Nat.le_refl _, Nat.le_refl _⟩)
    | (cases h; exact ⟨rfl, Nat.le_add_right _ _, Nat.le_add_right _ _⟩)
theorem mo26 : sMo (f_bl (fun x y => x ^^^ y)) := by
  intro o ls st S I L R q h
  unfold f_bl at h
  repeat' split at h
  all_goals first
    | (cases h; done)
    | (cases h; exact ⟨rfl, Nat.le_refl _, Nat.le_refl _⟩)
    | (cases h; exact ⟨st1_len _ _ _, Nat.le_refl _, Nat.le_refl _⟩)
    | (cases h; exact ⟨st2_len _ _ _ (by assumption), Nat.le_refl _, Nat.le_refl _⟩)
    | (cases h; exact ⟨rfl, Nat.le_add_right _ _, Nat.le_add_right _ _⟩)
theorem mo27 : sMo (f_bld (fun x y => x / y)) := by
  intro o ls st S I L R q h
  unfold f_bld at h
  repeat' split at h
  all_goals first
    | (cases h; done)
    | (cases h; exact ⟨rfl, Nat.le_refl _, Nat.le_refl _⟩)
    | (cases h; exact ⟨st1_len _ _ _, Nat.le_refl _, Nat.le_refl _⟩)
    | (cases h; exact ⟨st2_len _ _ _ (by assumption), Nat.le_refl _, Nat.le_refl _⟩)
    | (cases h; exact ⟨rfl, Nat.le_add_right _ _, Nat.le_add_right _ _⟩)
theorem mo28 : sMo (f_bld (fun x y => x - x / y * y)) := by
  intro o ls st S I L R q h
  unfold f_bld at h
  repeat' split at h
  all_goals first
    | (cases h; done)
    | (cases h; exact ⟨rfl, Nat.le_refl _, Nat.le_refl _⟩)
    | (cases h; exact ⟨st1_len _ _ _, Nat.le_refl _, Nat.le_refl _⟩)
    | (cases h; exact ⟨st2_len _ _ _ (by assumption), Nat.le_refl _, Nat.le_refl _⟩)
    | (cases h; exact ⟨rfl, Nat.le_add_right _ _, Nat.le_add_right _ _⟩)
theorem mo29 : sMo (f_lneg) := by
  intro o ls st S I L R q h
  unfold f_lneg at h
  repeat' split at h
  all_goals first
    | (cases h; done)
    | (cases h; exact ⟨rfl, Nat.le_refl _, Nat.le_refl _⟩)
    | (cases h; exact ⟨st1_len _ _ _, Nat.le_refl _, Nat.le_refl _⟩)
    | (cases h; exact ⟨st2_len _ _ _ (by assumption), Nat.le_refl _, Nat.le_refl _⟩)
    | (cases h; exact ⟨rfl, Nat.le_add_right _ _, Nat.le_add_right _ _⟩)
theorem mo30 : sMo (f_sl (fun x y => x <<< (y.toInt64 &&& 63))) := by
  intro o ls st S I L R q h
  unfold f_sl at h
  repeat' split at h
  all_goals first
    | (cases h; done)
    | (cases h; exact ⟨rfl, Nat.le_refl _, Nat.le_refl _⟩)
    | (cases h; exact ⟨st1_len _ _ _, Nat.le_refl _, Nat.le_refl _⟩)
    | (cases h; exact ⟨st2_len _ _ _ (by assumption), Nat.le_refl _, Nat.le_refl _⟩)
    | (cases h; exact ⟨rfl, Nat.le_add_right _ _, Nat.le_add_right _ _⟩)
theorem mo31 : sMo (f_sl (fun x y => (x.toUInt64 >>> (y.toInt64.toUInt64 &&& Int64.toUInt64 63)).toInt64)) := by
  intro o ls st S I L R q h
  unfold f_sl at h
  repeat' split at h
  all_goals first
    | (cases h; done)
    | (cases h; exact ⟨rfl, Nat.le_refl _, Nat.le_refl _⟩)
    | (cases h; exact ⟨st1_len _ _ _, Nat.le_refl _, Nat.le_refl _⟩)
    | (cases h; exact ⟨st2_len _ _ _ (by assumption), Nat.le_refl _, Nat.le_refl _⟩)
    | (cases h; exact ⟨rfl, Nat.le_add_right _ _, Nat.le_add_right _ _⟩)
theorem mo32 : sMo (f_lcmp) := by
  intro o ls st S I L R q h
  unfold f_lcmp at h
  repeat' split at h
  all_goals first
    | (cases h; done)
    | (cases h; exact ⟨rfl, Nat.le_refl _, Nat.le_refl _⟩)
    | (cases h; exact ⟨st1_len _ _ _, Nat.le_refl _, Nat.le_refl _⟩)
    | (cases h; exact ⟨st2_len _ _ _ (by assumption), Nat.le_refl _, Nat.le_refl _⟩)
    | (cases h; exact ⟨rfl, Nat.le_add_right _ _, Nat.le_add_right _ _⟩)
theorem mo33 : sMo (f_i2l) := by
  intro o ls st S I L R q h
  unfold f_i2l at h
  repeat' split at h
  all_goals first
    | (cases h; done)
    | (cases h; exact ⟨rfl, Nat.le_refl _, Nat.le_refl _⟩)
    | (cases h; exact ⟨st1_len _ _ _, Nat.le_refl _, Nat.le_refl _⟩)
    | (cases h; exact ⟨st2_len _ _ _ (by assumption), Nat.le_refl _, Nat.le_refl _⟩)
    | (cases h; exact ⟨rfl, Nat.le_add_right _ _, Nat.le_add_right _ _⟩)
theorem mo34 : sMo (f_l2i) := by
  intro o ls st S I L R q h
  unfold f_l2i at h
  repeat' split at h
  all_goals first
    | (cases h; done)
    | (cases h; exact ⟨rfl, Nat.le_refl _, Nat.le_refl _⟩)
    | (cases h; exact ⟨st1_len _ _ _, Nat.le_refl _, Nat.le_refl _⟩)
    | (cases h; exact ⟨st2_len _ _ _ (by assumption), Nat.le_refl _, Nat.le_refl _⟩)
    | (cases h; exact ⟨rfl, Nat.le_add_right _ _, Nat.le_add_right _ _⟩)
theorem mo35 : sMo (f_ui (fun x => x.toInt8.toInt32)) := by
  intro o ls st S I L R q h
  unfold f_ui at h
  repeat' split at h
  all_goals first
    | (cases h; done)
    | (cases h; exact ⟨rfl, Nat.le_refl _, Nat.le_refl _⟩)
    | (cases h; exact ⟨st1_len _ _ _, Nat.le_refl _, Nat.le_refl _⟩)
    | (cases h; exact ⟨st2_len _ _ _ (by assumption), Nat.le_refl _, Nat.le_refl _⟩)
    | (cases h; exact ⟨rfl, Nat.le_add_right _ _, Nat.le_add_right _ _⟩)
theorem mo36 : sMo (f_ui (fun x => (x.toUInt32 % 65536).toInt32)) := by
  intro o ls st S I L R q h
  unfold f_ui at h
  repeat' split at h
  all_goals first
    | (cases h; done)
    | (cases h; exact ⟨rfl, Nat.le_refl _, Nat.le_refl _⟩)
    | (cases h; exact ⟨st1_len _ _ _, Nat.le_refl _, Nat.le_refl _⟩)
    | (cases h; exact ⟨st2_len _ _ _ (by assumption), Nat.le_refl _, Nat.le_refl _⟩)
    | (cases h; exact ⟨rfl, Nat.le_add_right _ _, Nat.le_add_right _ _⟩)
theorem mo37 : sMo (f_dup) := by
  intro o ls st S I L R q h
  unfold f_dup at h
  repeat' split at h
  all_goals first
    | (cases h; done)
    | (cases h; exact ⟨rfl, Nat.le_refl _, Nat.le_refl _⟩)
    | (cases h; exact ⟨st1_len _ _ _, Nat.le_refl _, Nat.le_refl _⟩)
    | (cases h; exact ⟨st2_len _ _ _ (by assumption), Nat.le_refl _, Nat.le_refl _⟩)
    | (cases h; exact ⟨rfl, Nat.le_add_right _ _, Nat.le_add_right _ _⟩)
theorem mo38 : sMo (f_dup2) := by
  intro o ls st S I L R q h
  unfold f_dup2 at h
  repeat' split at h
  all_goals first
    | (cases h; done)
    | (cases h; exact ⟨rfl, Nat.le_refl _, Nat.le_refl _⟩)
    | (cases h; exact ⟨st1_len _ _ _, Nat.le_refl _, Nat.le_refl _⟩)
    | (cases h; exact ⟨st2_len _ _ _ (by assumption), Nat.le_refl _, Nat.le_refl _⟩)
    | (cases h; exact ⟨rfl, Nat.le_add_right _ _, Nat.le_add_right _ _⟩)
theorem mo39 : sMo (f_pop) := by
  intro o ls st S I L R q h
  unfold f_pop at h
  repeat' split at h
  all_goals first
    | (cases h; done)
    | (cases h; exact ⟨rfl, Nat.le_refl _, Nat.le_refl _⟩)
    | (cases h; exact ⟨st1_len _ _ _, Nat.le_refl _, Nat.le_refl _⟩)
    | (cases h; exact ⟨st2_len _ _ _ (by assumption), Nat.le_refl _, Nat.le_refl _⟩)
    | (cases h; exact ⟨rfl, Nat.le_add_right _ _, Nat.le_add_right _ _⟩)
theorem mo40 : sMo (f_if (fun x => decide (x = 0))) := by
  intro o ls st S I L R q h
  unfold f_if at h
  repeat' split at h
  all_goals first
    | (cases h; done)
    | (cases h; exact ⟨rfl, Nat.le_refl _, Nat.le_refl _⟩)
    | (cases h; exact ⟨st1_len _ _ _, Nat.le_refl _, Nat.le_refl _⟩)
    | (cases h; exact ⟨st2_len _ _ _ (by assumption), Nat.le_refl _, Nat.le_refl _⟩)
    | (cases h; exact ⟨rfl, Nat.le_add_right _ _, Nat.le_add_right _ _⟩)
theorem mo41 : sMo (f_if (fun x => !decide (x = 0))) := by
  intro o ls st S I L R q h
  unfold f_if at h
  repeat' split at h
  all_goals first
    | (cases h; done)
    | (cases h; exact ⟨rfl, Nat.le_refl _, Nat.le_refl _⟩)
    | (cases h; exact ⟨st1_len _ _ _, Nat.le_refl _, Nat.le_refl _⟩)
    | (cases h; exact ⟨st2_len _ _ _ (by assumption), Nat.le_refl _, Nat.le_refl _⟩)
    | (cases h; exact ⟨rfl, Nat.le_add_right _ _, Nat.le_add_right _ _⟩)
theorem mo42 : sMo (f_if (fun x => decide (x < 0))) := by
  intro o ls st S I L R q h
  unfold f_if at h
  repeat' split at h
  all_goals first
    | (cases h; done)
    | (cases h; exact ⟨rfl, Nat.le_refl _, Nat.le_refl _⟩)
    | (cases h; exact ⟨st1_len _ _ _, Nat.le_refl _, Nat.le_refl _⟩)
    | (cases h; exact ⟨st2_len _ _ _ (by assumption), Nat.le_refl _, Nat.le_refl _⟩)
    | (cases h; exact ⟨rfl, Nat.le_add_right _ _, Nat.le_add_right _ _⟩)
theorem mo43 : sMo (f_if (fun x => !decide (x < 0))) := by
  intro o ls st S I L R q h
  unfold f_if at h
  repeat' split at h
  all_goals first
    | (cases h; done)
    | (cases h; exact ⟨rfl, Nat.le_refl _, Nat.le_refl _⟩)
    | (cases h; exact ⟨st1_len _ _ _, Nat.le_refl _, Nat.le_refl _⟩)
    | (cases h; exact ⟨st2_len _ _ _ (by assumption), Nat.le_refl _, Nat.le_refl _⟩)
    | (cases h; exact ⟨rfl, Nat.le_add_right _ _, Nat.le_add_right _ _⟩)
theorem mo44 : sMo (f_if (fun x => decide (0 < x))) := by
  intro o ls st S I L R q h
  unfold f_if at h
  repeat' split at h
  all_goals first
    | (cases h; done)
    | (cases h; exact ⟨rfl, Nat.le_refl _, Nat.le_refl _⟩)
    | (cases h; exact ⟨st1_len _ _ _, Nat.le_refl _, Nat.le_refl _⟩)
    | (cases h; exact ⟨st2_len _ _ _ (by assumption), Nat.le_refl _, Nat.le_refl _⟩)
    | (cases h; exact ⟨rfl, Nat.le_add_right _ _, Nat.le_add_right _ _⟩)
theorem mo45 : sMo (f_if (fun x => !decide (0 < x))) := by
  intro o ls st S I L R q h
  unfold f_if at h
  repeat' split at h
  all_goals first
    | (cases h; done)
    | (cases h; exact ⟨rfl, Nat.le_refl _, Nat.le_refl _⟩)
    | (cases h; exact ⟨st1_len _ _ _, Nat.le_refl _, Nat.le_refl _⟩)
    | (cases h; exact ⟨st2_len _ _ _ (by assumption), Nat.le_refl _, Nat.le_refl _⟩)
    | (cases h; exact ⟨rfl, Nat.le_add_right _ _, Nat.le_add_right _ _⟩)
theorem mo46 : sMo (f_cp (fun x y => decide (x = y))) := by
  intro o ls st S I L R q h
  unfold f_cp at h
  repeat' split at h
  all_goals first
    | (cases h; done)
    | (cases h; exact ⟨rfl, Nat.le_refl _, Nat.le_refl _⟩)
    | (cases h; exact ⟨st1_len _ _ _, Nat.le_refl _, Nat.le_refl _⟩)
    | (cases h; exact ⟨st2_len _ _ _ (by assumption), Nat.le_refl _, Nat.le_refl _⟩)
    | (cases h; exact ⟨rfl, Nat.le_add_right _ _, Nat.le_add_right _ _⟩)
theorem mo47 : sMo (f_cp (fun x y => !decide (x = y))) := by
  intro o ls st S I L R q h
  unfold f_cp at h
  repeat' split at h
  all_goals first
    | (cases h; done)
    | (cases h; exact ⟨rfl, Nat.le_refl _, Nat.le_refl _⟩)
    | (cases h; exact ⟨st1_len _ _ _, Nat.le_refl _, Nat.le_refl _⟩)
    | (cases h; exact ⟨st2_len _ _ _ (by assumption), Nat.le_refl _, Nat.le_refl _⟩)
    | (cases h; exact ⟨rfl, Nat.le_add_right _ _, Nat.le_add_right _ _⟩)
theorem mo48 : sMo (f_cp (fun x y => decide (x < y))) := by
  intro o ls st S I L R q h
  unfold f_cp at h
  repeat' split at h
  all_goals first
    | (cases h; done)
    | (cases h; exact ⟨rfl, Nat.le_refl _, Nat.le_refl _⟩)
    | (cases h; exact ⟨st1_len _ _ _, Nat.le_refl _, Nat.le_refl _⟩)
    | (cases h; exact ⟨st2_len _ _ _ (by assumption), Nat.le_refl _, Nat.le_refl _⟩)
    | (cases h; exact ⟨rfl, Nat.le_add_right _ _, Nat.le_add_right _ _⟩)
theorem mo49 : sMo (f_cp (fun x y => !decide (x < y))) := by
  intro o ls st S I L R q h
  unfold f_cp at h
  repeat' split at h
  all_goals first
    | (cases h; done)
    | (cases h; exact ⟨rfl, Nat.le_refl _, Nat.le_refl _⟩)
    | (cases h; exact ⟨st1_len _ _ _, Nat.le_refl _, Nat.le_refl _⟩)
    | (cases h; exact ⟨st2_len _ _ _ (by assumption), Nat.le_refl _, Nat.le_refl _⟩)
    | (cases h; exact ⟨rfl, Nat.le_add_right _ _, Nat.le_add_right _ _⟩)
theorem mo50 : sMo (f_cp (fun x y => decide (y < x))) := by
  intro o ls st S I L R q h
  unfold f_cp at h
  repeat' split at h
  all_goals first
    | (cases h; done)
    | (cases h; exact ⟨rfl, Nat.le_refl _, Nat.le_refl _⟩)
    | (cases h; exact ⟨st1_len _ _ _, Nat.le_refl _, Nat.le_refl _⟩)
    | (cases h; exact ⟨st2_len _ _ _ (by assumption), Nat.le_refl _, Nat.le_refl _⟩)
    | (cases h; exact ⟨rfl, Nat.le_add_right _ _, Nat.le_add_right _ _⟩)
theorem mo51 : sMo (f_cp (fun x y => !decide (y < x))) := by
  intro o ls st S I L R q h
  unfold f_cp at h
  repeat' split at h
  all_goals first
    | (cases h; done)
    | (cases h; exact ⟨rfl, Nat.le_refl _, Nat.le_refl _⟩)
    | (cases h; exact ⟨st1_len _ _ _, Nat.le_refl _, Nat.le_refl _⟩)
    | (cases h; exact ⟨st2_len _ _ _ (by assumption), Nat.le_refl _, Nat.le_refl _⟩)
    | (cases h; exact ⟨rfl, Nat.le_add_right _ _, Nat.le_add_right _ _⟩)
theorem mo52 : sMo (f_go) := by
  intro o ls st S I L R q h
  unfold f_go at h
  repeat' split at h
  all_goals first
    | (cases h; done)
    | (cases h; exact ⟨rfl, Nat.le_refl _, Nat.le_refl _⟩)
    | (cases h; exact ⟨st1_len _ _ _, Nat.le_refl _, Nat.le_refl _⟩)
    | (cases h; exact ⟨st2_len _ _ _ (by assumption), Nat.le_refl _, Nat.le_refl _⟩)
    | (cases h; exact ⟨rfl, Nat.le_add_right _ _, Nat.le_add_right _ _⟩)
theorem mo53 : sMo (f_nu) := by
  intro o ls st S I L R q h
  unfold f_nu at h
  repeat' split at h
  all_goals first
    | (cases h; done)
    | (cases h; exact ⟨rfl, Nat.le_refl _, Nat.le_refl _⟩)
    | (cases h; exact ⟨st1_len _ _ _, Nat.le_refl _, Nat.le_refl _⟩)
    | (cases h; exact ⟨st2_len _ _ _ (by assumption), Nat.le_refl _, Nat.le_refl _⟩)
    | (cases h; exact ⟨rfl, Nat.le_add_right _ _, Nat.le_add_right _ _⟩)
theorem mo54 : sMo (f_nn) := by
  intro o ls st S I L R q h
  unfold f_nn at h
  repeat' split at h
  all_goals first
    | (cases h; done)
    | (cases h; exact ⟨rfl, Nat.le_refl _, Nat.le_refl _⟩)
    | (cases h; exact ⟨st1_len _ _ _, Nat.le_refl _, Nat.le_refl _⟩)
    | (cases h; exact ⟨st2_len _ _ _ (by assumption), Nat.le_refl _, Nat.le_refl _⟩)
    | (cases h; exact ⟨rfl, Nat.le_add_right _ _, Nat.le_add_right _ _⟩)
theorem mo55 : sMo (f_an) := by
  intro o ls st S I L R q h
  unfold f_an at h
  repeat' split at h
  all_goals first
    | (cases h; done)
    | (cases h; exact ⟨rfl, Nat.le_refl _, Nat.le_refl _⟩)
    | (cases h; exact ⟨st1_len _ _ _, Nat.le_refl _, Nat.le_refl _⟩)
    | (cases h; exact ⟨st2_len _ _ _ (by assumption), Nat.le_refl _, Nat.le_refl _⟩)
    | (cases h; exact ⟨rfl, Nat.le_add_right _ _, Nat.le_add_right _ _⟩)
theorem mo56 : sMo (f_gi) := by
  intro o ls st S I L R q h
  unfold f_gi at h
  repeat' split at h
  all_goals first
    | (cases h; done)
    | (cases h; exact ⟨rfl, Nat.le_refl _, Nat.le_refl _⟩)
    | (cases h; exact ⟨st1_len _ _ _, Nat.le_refl _, Nat.le_refl _⟩)
    | (cases h; exact ⟨st2_len _ _ _ (by assumption), Nat.le_refl _, Nat.le_refl _⟩)
    | (cases h; exact ⟨rfl, Nat.le_add_right _ _, Nat.le_add_right _ _⟩)
theorem mo57 : sMo (f_gl) := by
  intro o ls st S I L R q h
  unfold f_gl at h
  repeat' split at h
  all_goals first
    | (cases h; done)
    | (cases h; exact ⟨rfl, Nat.le_refl _, Nat.le_refl _⟩)
    | (cases h; exact ⟨st1_len _ _ _, Nat.le_refl _, Nat.le_refl _⟩)
    | (cases h; exact ⟨st2_len _ _ _ (by assumption), Nat.le_refl _, Nat.le_refl _⟩)
    | (cases h; exact ⟨rfl, Nat.le_add_right _ _, Nat.le_add_right _ _⟩)
theorem mo58 : sMo (f_gr) := by
  intro o ls st S I L R q h
  unfold f_gr at h
  repeat' split at h
  all_goals first
    | (cases h; done)
    | (cases h; exact ⟨rfl, Nat.le_refl _, Nat.le_refl _⟩)
    | (cases h; exact ⟨st1_len _ _ _, Nat.le_refl _, Nat.le_refl _⟩)
    | (cases h; exact ⟨st2_len _ _ _ (by assumption), Nat.le_refl _, Nat.le_refl _⟩)
    | (cases h; exact ⟨rfl, Nat.le_add_right _ _, Nat.le_add_right _ _⟩)
theorem mo59 : sMo (f_pi) := by
  intro o ls st S I L R q h
  unfold f_pi at h
  repeat' split at h
  all_goals first
    | (cases h; done)
    | (cases h; exact ⟨rfl, Nat.le_refl _, Nat.le_refl _⟩)
    | (cases h; exact ⟨st1_len _ _ _, Nat.le_refl _, Nat.le_refl _⟩)
    | (cases h; exact ⟨st2_len _ _ _ (by assumption), Nat.le_refl _, Nat.le_refl _⟩)
    | (cases h; exact ⟨rfl, Nat.le_add_right _ _, Nat.le_add_right _ _⟩)
theorem mo60 : sMo (f_pl) := by
  intro o ls st S I L R q h
  unfold f_pl at h
  repeat' split at h
  all_goals first
    | (cases h; done)
    | (cases h; exact ⟨rfl, Nat.le_refl _, Nat.le_refl _⟩)
    | (cases h; exact ⟨st1_len _ _ _, Nat.le_refl _, Nat.le_refl _⟩)
    | (cases h; exact ⟨st2_len _ _ _ (by assumption), Nat.le_refl _, Nat.le_refl _⟩)
    | (cases h; exact ⟨rfl, Nat.le_add_right _ _, Nat.le_add_right _ _⟩)
theorem mo61 : sMo (f_pr) := by
  intro o ls st S I L R q h
  unfold f_pr at h
  repeat' split at h
  all_goals first
    | (cases h; done)
    | (cases h; exact ⟨rfl, Nat.le_refl _, Nat.le_refl _⟩)
    | (cases h; exact ⟨st1_len _ _ _, Nat.le_refl _, Nat.le_refl _⟩)
    | (cases h; exact ⟨st2_len _ _ _ (by assumption), Nat.le_refl _, Nat.le_refl _⟩)
    | (cases h; exact ⟨rfl, Nat.le_add_right _ _, Nat.le_add_right _ _⟩)
theorem mo62 : sMo (f_ia) := by
  intro o ls st S I L R q h
  unfold f_ia at h
  repeat' split at h
  all_goals first
    | (cases h; done)
    | (cases h; exact ⟨rfl, Nat.le_refl _, Nat.le_refl _⟩)
    | (cases h; exact ⟨st1_len _ _ _, Nat.le_refl _, Nat.le_refl _⟩)
    | (cases h; exact ⟨st2_len _ _ _ (by assumption), Nat.le_refl _, Nat.le_refl _⟩)
    | (cases h; exact ⟨rfl, Nat.le_add_right _ _, Nat.le_add_right _ _⟩)
theorem mo63 : sMo (f_za 10) := by
  intro o ls st S I L R q h
  unfold f_za at h
  repeat' split at h
  all_goals first
    | (cases h; done)
    | (cases h; exact ⟨rfl, Nat.le_refl _, Nat.le_refl _⟩)
    | (cases h; exact ⟨st1_len _ _ _, Nat.le_refl _, Nat.le_refl _⟩)
    | (cases h; exact ⟨st2_len _ _ _ (by assumption), Nat.le_refl _, Nat.le_refl _⟩)
    | (cases h; exact ⟨rfl, Nat.le_add_right _ _, Nat.le_add_right _ _⟩)
theorem mo64 : sMo (f_za 13) := by
  intro o ls st S I L R q h
  unfold f_za at h
  repeat' split at h
  all_goals first
    | (cases h; done)
    | (cases h; exact ⟨rfl, Nat.le_refl _, Nat.le_refl _⟩)
    | (cases h; exact ⟨st1_len _ _ _, Nat.le_refl _, Nat.le_refl _⟩)
    | (cases h; exact ⟨st2_len _ _ _ (by assumption), Nat.le_refl _, Nat.le_refl _⟩)
    | (cases h; exact ⟨rfl, Nat.le_add_right _ _, Nat.le_add_right _ _⟩)
theorem mo65 : sMo (f_la) := by
  intro o ls st S I L R q h
  unfold f_la at h
  repeat' split at h
  all_goals first
    | (cases h; done)
    | (cases h; exact ⟨rfl, Nat.le_refl _, Nat.le_refl _⟩)
    | (cases h; exact ⟨st1_len _ _ _, Nat.le_refl _, Nat.le_refl _⟩)
    | (cases h; exact ⟨st2_len _ _ _ (by assumption), Nat.le_refl _, Nat.le_refl _⟩)
    | (cases h; exact ⟨rfl, Nat.le_add_right _ _, Nat.le_add_right _ _⟩)
theorem mo66 : sMo (f_aa) := by
  intro o ls st S I L R q h
  unfold f_aa at h
  repeat' split at h
  all_goals first
    | (cases h; done)
    | (cases h; exact ⟨rfl, Nat.le_refl _, Nat.le_refl _⟩)
    | (cases h; exact ⟨st1_len _ _ _, Nat.le_refl _, Nat.le_refl _⟩)
    | (cases h; exact ⟨st2_len _ _ _ (by assumption), Nat.le_refl _, Nat.le_refl _⟩)
    | (cases h; exact ⟨rfl, Nat.le_add_right _ _, Nat.le_add_right _ _⟩)
theorem mo67 : sMo (f_sia) := by
  intro o ls st S I L R q h
  unfold f_sia at h
  repeat' split at h
  all_goals first
    | (cases h; done)
    | (cases h; exact ⟨rfl, Nat.le_refl _, Nat.le_refl _⟩)
    | (cases h; exact ⟨st1_len _ _ _, Nat.le_refl _, Nat.le_refl _⟩)
    | (cases h; exact ⟨st2_len _ _ _ (by assumption), Nat.le_refl _, Nat.le_refl _⟩)
    | (cases h; exact ⟨rfl, Nat.le_add_right _ _, Nat.le_add_right _ _⟩)
theorem mo68 : sMo (f_sba) := by
  intro o ls st S I L R q h
  unfold f_sba at h
  repeat' split at h
  all_goals first
    | (cases h; done)
    | (cases h; exact ⟨rfl, Nat.le_refl _, Nat.le_refl _⟩)
    | (cases h; exact ⟨st1_len _ _ _, Nat.le_refl _, Nat.le_refl _⟩)
    | (cases h; exact ⟨st2_len _ _ _ (by assumption), Nat.le_refl _, Nat.le_refl _⟩)
    | (cases h; exact ⟨rfl, Nat.le_add_right _ _, Nat.le_add_right _ _⟩)
theorem mo69 : sMo (f_sza) := by
  intro o ls st S I L R q h
  unfold f_sza at h
  repeat' split at h
  all_goals first
    | (cases h; done)
    | (cases h; exact ⟨rfl, Nat.le_refl _, Nat.le_refl _⟩)
    | (cases h; exact ⟨st1_len _ _ _, Nat.le_refl _, Nat.le_refl _⟩)
    | (cases h; exact ⟨st2_len _ _ _ (by assumption), Nat.le_refl _, Nat.le_refl _⟩)
    | (cases h; exact ⟨rfl, Nat.le_add_right _ _, Nat.le_add_right _ _⟩)
theorem mo70 : sMo (f_sla) := by
  intro o ls st S I L R q h
  unfold f_sla at h
  repeat' split at h
  all_goals first
    | (cases h; done)
    | (cases h; exact ⟨rfl, Nat.le_refl _, Nat.le_refl _⟩)
    | (cases h; exact ⟨st1_len _ _ _, Nat.le_refl _, Nat.le_refl _⟩)
    | (cases h; exact ⟨st2_len _ _ _ (by assumption), Nat.le_refl _, Nat.le_refl _⟩)
    | (cases h; exact ⟨rfl, Nat.le_add_right _ _, Nat.le_add_right _ _⟩)
theorem mo71 : sMo (f_saa) := by
  intro o ls st S I L R q h
  unfold f_saa at h
  repeat' split at h
  all_goals first
    | (cases h; done)
    | (cases h; exact ⟨rfl, Nat.le_refl _, Nat.le_refl _⟩)
    | (cases h; exact ⟨st1_len _ _ _, Nat.le_refl _, Nat.le_refl _⟩)
    | (cases h; exact ⟨st2_len _ _ _ (by assumption), Nat.le_refl _, Nat.le_refl _⟩)
    | (cases h; exact ⟨rfl, Nat.le_add_right _ _, Nat.le_add_right _ _⟩)
theorem mo72 : sMo (f_len) := by
  intro o ls st S I L R q h
  unfold f_len at h
  repeat' split at h
  all_goals first
    | (cases h; done)
    | (cases h; exact ⟨rfl, Nat.le_refl _, Nat.le_refl _⟩)
    | (cases h; exact ⟨st1_len _ _ _, Nat.le_refl _, Nat.le_refl _⟩)
    | (cases h; exact ⟨st2_len _ _ _ (by assumption), Nat.le_refl _, Nat.le_refl _⟩)
    | (cases h; exact ⟨rfl, Nat.le_add_right _ _, Nat.le_add_right _ _⟩)
theorem mo73 : sMo (f_new) := by
  intro o ls st S I L R q h
  unfold f_new at h
  repeat' split at h
  all_goals first
    | (cases h; done)
    | (cases h; exact ⟨rfl, Nat.le_refl _, Nat.le_refl _⟩)
    | (cases h; exact ⟨st1_len _ _ _, Nat.le_refl _, Nat.le_refl _⟩)
    | (cases h; exact ⟨st2_len _ _ _ (by assumption), Nat.le_refl _, Nat.le_refl _⟩)
    | (cases h; exact ⟨rfl, Nat.le_add_right _ _, Nat.le_add_right _ _⟩)
theorem mo74 : sMo (f_na) := by
  intro o ls st S I L R q h
  unfold f_na at h
  repeat' split at h
  all_goals first
    | (cases h; done)
    | (cases h; exact ⟨rfl, Nat.le_refl _, Nat.le_refl _⟩)
    | (cases h; exact ⟨st1_len _ _ _, Nat.le_refl _, Nat.le_refl _⟩)
    | (cases h; exact ⟨st2_len _ _ _ (by assumption), Nat.le_refl _, Nat.le_refl _⟩)
    | (cases h; exact ⟨rfl, Nat.le_add_right _ _, Nat.le_add_right _ _⟩)
theorem mo75 : sMo (f_mu) := by
  intro o ls st S I L R q h
  unfold f_mu at h
  repeat' split at h
  all_goals first
    | (cases h; done)
    | (cases h; exact ⟨rfl, Nat.le_refl _, Nat.le_refl _⟩)
    | (cases h; exact ⟨st1_len _ _ _, Nat.le_refl _, Nat.le_refl _⟩)
    | (cases h; exact ⟨st2_len _ _ _ (by assumption), Nat.le_refl _, Nat.le_refl _⟩)
    | (cases h; exact ⟨rfl, Nat.le_add_right _ _, Nat.le_add_right _ _⟩)
theorem mo76 : sMo (f_gs) := by
  intro o ls st S I L R q h
  unfold f_gs at h
  repeat' split at h
  all_goals first
    | (cases h; done)
    | (cases h; exact ⟨rfl, Nat.le_refl _, Nat.le_refl _⟩)
    | (cases h; exact ⟨st1_len _ _ _, Nat.le_refl _, Nat.le_refl _⟩)
    | (cases h; exact ⟨st2_len _ _ _ (by assumption), Nat.le_refl _, Nat.le_refl _⟩)
    | (cases h; exact ⟨rfl, Nat.le_add_right _ _, Nat.le_add_right _ _⟩)
theorem mo77 : sMo (f_oi) := by
  intro o ls st S I L R q h
  unfold f_oi at h
  repeat' split at h
  all_goals first
    | (cases h; done)
    | (cases h; exact ⟨rfl, Nat.le_refl _, Nat.le_refl _⟩)
    | (cases h; exact ⟨st1_len _ _ _, Nat.le_refl _, Nat.le_refl _⟩)
    | (cases h; exact ⟨st2_len _ _ _ (by assumption), Nat.le_refl _, Nat.le_refl _⟩)
    | (cases h; exact ⟨rfl, Nat.le_add_right _ _, Nat.le_add_right _ _⟩)
theorem mo78 : sMo (f_ac) := by
  intro o ls st S I L R q h
  unfold f_ac at h
  repeat' split at h
  all_goals first
    | (cases h; done)
    | (cases h; exact ⟨rfl, Nat.le_refl _, Nat.le_refl _⟩)
    | (cases h; exact ⟨st1_len _ _ _, Nat.le_refl _, Nat.le_refl _⟩)
    | (cases h; exact ⟨st2_len _ _ _ (by assumption), Nat.le_refl _, Nat.le_refl _⟩)
    | (cases h; exact ⟨rfl, Nat.le_add_right _ _, Nat.le_add_right _ _⟩)
theorem mo79 : sMo (f_ts) := by
  intro o ls st S I L R q h
  unfold f_ts at h
  repeat' split at h
  all_goals first
    | (cases h; done)
    | (cases h; exact ⟨rfl, Nat.le_refl _, Nat.le_refl _⟩)
    | (cases h; exact ⟨st1_len _ _ _, Nat.le_refl _, Nat.le_refl _⟩)
    | (cases h; exact ⟨st2_len _ _ _ (by assumption), Nat.le_refl _, Nat.le_refl _⟩)
    | (cases h; exact ⟨rfl, Nat.le_add_right _ _, Nat.le_add_right _ _⟩)
theorem mo80 : sMo (f_pz) := by
  intro o ls st S I L R q h
  unfold f_pz at h
  repeat' split at h
  all_goals first
    | (cases h; done)
    | (cases h; exact ⟨rfl, Nat.le_refl _, Nat.le_refl _⟩)
    | (cases h; exact ⟨st1_len _ _ _, Nat.le_refl _, Nat.le_refl _⟩)
    | (cases h; exact ⟨st2_len _ _ _ (by assumption), Nat.le_refl _, Nat.le_refl _⟩)
    | (cases h; exact ⟨rfl, Nat.le_add_right _ _, Nat.le_add_right _ _⟩)
theorem mo81 : sMo (f_pop2) := by
  intro o ls st S I L R q h
  unfold f_pop2 at h
  repeat' split at h
  all_goals first
    | (cases h; done)
    | (cases h; exact ⟨rfl, Nat.le_refl _, Nat.le_refl _⟩)
    | (cases h; exact ⟨st1_len _ _ _, Nat.le_refl _, Nat.le_refl _⟩)
    | (cases h; exact ⟨st2_len _ _ _ (by assumption), Nat.le_refl _, Nat.le_refl _⟩)
    | (cases h; exact ⟨rfl, Nat.le_add_right _ _, Nat.le_add_right _ _⟩)
theorem mo82 : sMo (f_mm (fun x y => if x < y then y else x)) := by
  intro o ls st S I L R q h
  unfold f_mm at h
  repeat' split at h
  all_goals first
    | (cases h; done)
    | (cases h; exact ⟨rfl, Nat.le_refl _, Nat.le_refl _⟩)
    | (cases h; exact ⟨st1_len _ _ _, Nat.le_refl _, Nat.le_refl _⟩)
    | (cases h; exact ⟨st2_len _ _ _ (by assumption), Nat.le_refl _, Nat.le_refl _⟩)
    | (cases h; exact ⟨rfl, Nat.le_add_right _ _, Nat.le_add_right _ _⟩)
theorem mo83 : sMo (f_mm (fun x y => if y < x then y else x)) := by
  intro o ls st S I L R q h
  unfold f_mm at h
  repeat' split at h
  all_goals first
    | (cases h; done)
    | (cases h; exact ⟨rfl, Nat.le_refl _, Nat.le_refl _⟩)
    | (cases h; exact ⟨st1_len _ _ _, Nat.le_refl _, Nat.le_refl _⟩)
    | (cases h; exact ⟨st2_len _ _ _ (by assumption), Nat.le_refl _, Nat.le_refl _⟩)
    | (cases h; exact ⟨rfl, Nat.le_add_right _ _, Nat.le_add_right _ _⟩)
theorem mo84 : sMo (f_ma) := by
  intro o ls st S I L R q h
  unfold f_ma at h
  repeat' split at h
  all_goals first
    | (cases h; done)
    | (cases h; exact ⟨rfl, Nat.le_refl _, Nat.le_refl _⟩)
    | (cases h; exact ⟨st1_len _ _ _, Nat.le_refl _, Nat.le_refl _⟩)
    | (cases h; exact ⟨st2_len _ _ _ (by assumption), Nat.le_refl _, Nat.le_refl _⟩)
    | (cases h; exact ⟨rfl, Nat.le_add_right _ _, Nat.le_add_right _ _⟩)
theorem mo85 : sMo (f_lds) := by
  intro o ls st S I L R q h
  unfold f_lds at h
  repeat' split at h
  all_goals first
    | (cases h; done)
    | (cases h; exact ⟨rfl, Nat.le_refl _, Nat.le_refl _⟩)
    | (cases h; exact ⟨st1_len _ _ _, Nat.le_refl _, Nat.le_refl _⟩)
    | (cases h; exact ⟨st2_len _ _ _ (by assumption), Nat.le_refl _, Nat.le_refl _⟩)
    | (cases h; exact ⟨rfl, Nat.le_add_right _ _, Nat.le_add_right _ _⟩)
theorem mo86 : sMo (f_afl) := by
  intro o ls st S I L R q h
  unfold f_afl at h
  repeat' split at h
  all_goals first
    | (cases h; done)
    | (cases h; exact ⟨rfl, Nat.le_refl _, Nat.le_refl _⟩)
    | (cases h; exact ⟨st1_len _ _ _, Nat.le_refl _, Nat.le_refl _⟩)
    | (cases h; exact ⟨st2_len _ _ _ (by assumption), Nat.le_refl _, Nat.le_refl _⟩)
    | (cases h; exact ⟨rfl, Nat.le_add_right _ _, Nat.le_add_right _ _⟩)
theorem mo87 : sMo (f_flv) := by
  intro o ls st S I L R q h
  unfold f_flv at h
  repeat' split at h
  all_goals first
    | (cases h; done)
    | (cases h; exact ⟨rfl, Nat.le_refl _, Nat.le_refl _⟩)
    | (cases h; exact ⟨st1_len _ _ _, Nat.le_refl _, Nat.le_refl _⟩)
    | (cases h; exact ⟨st2_len _ _ _ (by assumption), Nat.le_refl _, Nat.le_refl _⟩)
    | (cases h; exact ⟨rfl, Nat.le_add_right _ _, Nat.le_add_right _ _⟩)
theorem mo88 : sMo (f_flc) := by
  intro o ls st S I L R q h
  unfold f_flc at h
  repeat' split at h
  all_goals first
    | (cases h; done)
    | (cases h; exact ⟨rfl, Nat.le_refl _, Nat.le_refl _⟩)
    | (cases h; exact ⟨st1_len _ _ _, Nat.le_refl _, Nat.le_refl _⟩)
    | (cases h; exact ⟨st2_len _ _ _ (by assumption), Nat.le_refl _, Nat.le_refl _⟩)
    | (cases h; exact ⟨rfl, Nat.le_add_right _ _, Nat.le_add_right _ _⟩)
theorem mo89 : sMo (f_fln) := by
  intro o ls st S I L R q h
  unfold f_fln at h
  repeat' split at h
  all_goals first
    | (cases h; done)
    | (cases h; exact ⟨rfl, Nat.le_refl _, Nat.le_refl _⟩)
    | (cases h; exact ⟨st1_len _ _ _, Nat.le_refl _, Nat.le_refl _⟩)
    | (cases h; exact ⟨st2_len _ _ _ (by assumption), Nat.le_refl _, Nat.le_refl _⟩)
    | (cases h; exact ⟨rfl, Nat.le_add_right _ _, Nat.le_add_right _ _⟩)
theorem mo90 : sMo (f_fba) := by
  intro o ls st S I L R q h
  unfold f_fba at h
  repeat' split at h
  all_goals first
    | (cases h; done)
    | (cases h; exact ⟨rfl, Nat.le_refl _, Nat.le_refl _⟩)
    | (cases h; exact ⟨st1_len _ _ _, Nat.le_refl _, Nat.le_refl _⟩)
    | (cases h; exact ⟨st2_len _ _ _ (by assumption), Nat.le_refl _, Nat.le_refl _⟩)
    | (cases h; exact ⟨rfl, Nat.le_add_right _ _, Nat.le_add_right _ _⟩)
theorem mo91 : sMo (f_gcs) := by
  intro o ls st S I L R q h
  unfold f_gcs at h
  repeat' split at h
  all_goals first
    | (cases h; done)
    | (cases h; exact ⟨rfl, Nat.le_refl _, Nat.le_refl _⟩)
    | (cases h; exact ⟨st1_len _ _ _, Nat.le_refl _, Nat.le_refl _⟩)
    | (cases h; exact ⟨st2_len _ _ _ (by assumption), Nat.le_refl _, Nat.le_refl _⟩)
    | (cases h; exact ⟨rfl, Nat.le_add_right _ _, Nat.le_add_right _ _⟩)
theorem mo92 : sMo (f_gfm) := by
  intro o ls st S I L R q h
  unfold f_gfm at h
  repeat' split at h
  all_goals first
    | (cases h; done)
    | (cases h; exact ⟨rfl, Nat.le_refl _, Nat.le_refl _⟩)
    | (cases h; exact ⟨st1_len _ _ _, Nat.le_refl _, Nat.le_refl _⟩)
    | (cases h; exact ⟨st2_len _ _ _ (by assumption), Nat.le_refl _, Nat.le_refl _⟩)
    | (cases h; exact ⟨rfl, Nat.le_add_right _ _, Nat.le_add_right _ _⟩)
theorem mo93 : sMo (f_cln) := by
  intro o ls st S I L R q h
  unfold f_cln at h
  repeat' split at h
  all_goals first
    | (cases h; done)
    | (cases h; exact ⟨rfl, Nat.le_refl _, Nat.le_refl _⟩)
    | (cases h; exact ⟨st1_len _ _ _, Nat.le_refl _, Nat.le_refl _⟩)
    | (cases h; exact ⟨st2_len _ _ _ (by assumption), Nat.le_refl _, Nat.le_refl _⟩)
    | (cases h; exact ⟨rfl, Nat.le_add_right _ _, Nat.le_add_right _ _⟩)
theorem mo94 : sMo (f_cci) := by
  intro o ls st S I L R q h
  unfold f_cci at h
  repeat' split at h
  all_goals first
    | (cases h; done)
    | (cases h; exact ⟨rfl, Nat.le_refl _, Nat.le_refl _⟩)
    | (cases h; exact ⟨st1_len _ _ _, Nat.le_refl _, Nat.le_refl _⟩)
    | (cases h; exact ⟨st2_len _ _ _ (by assumption), Nat.le_refl _, Nat.le_refl _⟩)
    | (cases h; exact ⟨rfl, Nat.le_add_right _ _, Nat.le_add_right _ _⟩)
set_option maxRecDepth 100000 in
theorem mo_all : ∀ f ∈ mFs, sMo f := List.forall_mem_cons.mpr ⟨mo0, List.forall_mem_cons.mpr ⟨mo0, List.forall_mem_cons.mpr ⟨mo1, List.forall_mem_cons.mpr ⟨mo1, List.forall_mem_cons.mpr ⟨mo1, List.forall_mem_cons.mpr ⟨mo1, List.forall_mem_cons.mpr ⟨mo2, List.forall_mem_cons.mpr ⟨mo2, List.forall_mem_cons.mpr ⟨mo3, List.forall_mem_cons.mpr ⟨mo3, List.forall_mem_cons.mpr ⟨mo4, List.forall_mem_cons.mpr ⟨mo4, List.forall_mem_cons.mpr ⟨mo5, List.forall_mem_cons.mpr ⟨mo5, List.forall_mem_cons.mpr ⟨mo6, List.forall_mem_cons.mpr ⟨mo6, List.forall_mem_cons.mpr ⟨mo7, List.forall_mem_cons.mpr ⟨mo7, List.forall_mem_cons.mpr ⟨mo8, List.forall_mem_cons.mpr ⟨mo8, List.forall_mem_cons.mpr ⟨mo9, List.forall_mem_cons.mpr ⟨mo10, List.forall_mem_cons.mpr ⟨mo11, List.forall_mem_cons.mpr ⟨mo12, List.forall_mem_cons.mpr ⟨mo13, List.forall_mem_cons.mpr ⟨mo14, List.forall_mem_cons.mpr ⟨mo15, List.forall_mem_cons.mpr ⟨mo16, List.forall_mem_cons.mpr ⟨mo17, List.forall_mem_cons.mpr ⟨mo18, List.forall_mem_cons.mpr ⟨mo19, List.forall_mem_cons.mpr ⟨mo20, List.forall_mem_cons.mpr ⟨mo21, List.forall_mem_cons.mpr ⟨mo22, List.forall_mem_cons.mpr ⟨mo23, List.forall_mem_cons.mpr ⟨mo24, List.forall_mem_cons.mpr ⟨mo25, List.forall_mem_cons.mpr ⟨mo26, List.forall_mem_cons.mpr ⟨mo27, List.forall_mem_cons.mpr ⟨mo28, List.forall_mem_cons.mpr ⟨mo29, List.forall_mem_cons.mpr ⟨mo30, List.forall_mem_cons.mpr ⟨mo31, List.forall_mem_cons.mpr ⟨mo32, List.forall_mem_cons.mpr ⟨mo33, List.forall_mem_cons.mpr ⟨mo34, List.forall_mem_cons.mpr ⟨mo35, List.forall_mem_cons.mpr ⟨mo36, List.forall_mem_cons.mpr ⟨mo37, List.forall_mem_cons.mpr ⟨mo38, List.forall_mem_cons.mpr ⟨mo39, List.forall_mem_cons.mpr ⟨mo40, List.forall_mem_cons.mpr ⟨mo41, List.forall_mem_cons.mpr ⟨mo42, List.forall_mem_cons.mpr ⟨mo43, List.forall_mem_cons.mpr ⟨mo44, List.forall_mem_cons.mpr ⟨mo45, List.forall_mem_cons.mpr ⟨mo46, List.forall_mem_cons.mpr ⟨mo47, List.forall_mem_cons.mpr ⟨mo48, List.forall_mem_cons.mpr ⟨mo49, List.forall_mem_cons.mpr ⟨mo50, List.forall_mem_cons.mpr ⟨mo51, List.forall_mem_cons.mpr ⟨mo52, List.forall_mem_cons.mpr ⟨mo53, List.forall_mem_cons.mpr ⟨mo54, List.forall_mem_cons.mpr ⟨mo55, List.forall_mem_cons.mpr ⟨mo56, List.forall_mem_cons.mpr ⟨mo57, List.forall_mem_cons.mpr ⟨mo58, List.forall_mem_cons.mpr ⟨mo59, List.forall_mem_cons.mpr ⟨mo60, List.forall_mem_cons.mpr ⟨mo61, List.forall_mem_cons.mpr ⟨mo62, List.forall_mem_cons.mpr ⟨mo63, List.forall_mem_cons.mpr ⟨mo64, List.forall_mem_cons.mpr ⟨mo65, List.forall_mem_cons.mpr ⟨mo66, List.forall_mem_cons.mpr ⟨mo67, List.forall_mem_cons.mpr ⟨mo68, List.forall_mem_cons.mpr ⟨mo69, List.forall_mem_cons.mpr ⟨mo70, List.forall_mem_cons.mpr ⟨mo71, List.forall_mem_cons.mpr ⟨mo72, List.forall_mem_cons.mpr ⟨mo73, List.forall_mem_cons.mpr ⟨mo74, List.forall_mem_cons.mpr ⟨mo74, List.forall_mem_cons.mpr ⟨mo75, List.forall_mem_cons.mpr ⟨mo76, List.forall_mem_cons.mpr ⟨mo77, List.forall_mem_cons.mpr ⟨mo78, List.forall_mem_cons.mpr ⟨mo79, List.forall_mem_cons.mpr ⟨mo59, List.forall_mem_cons.mpr ⟨mo60, List.forall_mem_cons.mpr ⟨mo61, List.forall_mem_cons.mpr ⟨mo80, List.forall_mem_cons.mpr ⟨mo80, List.forall_mem_cons.mpr ⟨mo81, List.forall_mem_cons.mpr ⟨mo76, List.forall_mem_cons.mpr ⟨mo1, List.forall_mem_cons.mpr ⟨mo82, List.forall_mem_cons.mpr ⟨mo83, List.forall_mem_cons.mpr ⟨mo84, List.forall_mem_cons.mpr ⟨mo0, List.forall_mem_cons.mpr ⟨mo85, List.forall_mem_cons.mpr ⟨mo86, List.forall_mem_cons.mpr ⟨mo87, List.forall_mem_cons.mpr ⟨mo88, List.forall_mem_cons.mpr ⟨mo89, List.forall_mem_cons.mpr ⟨mo90, List.forall_mem_cons.mpr ⟨mo91, List.forall_mem_cons.mpr ⟨mo92, List.forall_mem_cons.mpr ⟨mo93, List.forall_mem_cons.mpr ⟨mo94, fun _ h => absurd h List.not_mem_nil⟩⟩⟩⟩⟩⟩⟩⟩⟩⟩⟩⟩⟩⟩⟩⟩⟩⟩⟩⟩⟩⟩⟩⟩⟩⟩⟩⟩⟩⟩⟩⟩⟩⟩⟩⟩⟩⟩⟩⟩⟩⟩⟩⟩⟩⟩⟩⟩⟩⟩⟩⟩⟩⟩⟩⟩⟩⟩⟩⟩⟩⟩⟩⟩⟩⟩⟩⟩⟩⟩⟩⟩⟩⟩⟩⟩⟩⟩⟩⟩⟩⟩⟩⟩⟩⟩⟩⟩⟩⟩⟩⟩⟩⟩⟩⟩⟩⟩⟩⟩⟩⟩⟩⟩⟩⟩⟩⟩⟩⟩⟩⟩⟩⟩
def mCk (o : mOp) : gCk := (mCs[o.1]?).getD (fun _ _ _ _ _ => true)
theorem stp_ok (o : mOp) : sOK (mCk o) (mStp o) := by
  unfold mCk mStp
  cases h : mFs[o.1]? with
  | none => exact so_no
  | some f =>
    cases h2 : mCs[o.1]? with
    | none =>
      have l1 := (List.getElem?_eq_some_iff.mp h).1
      have l2 := List.getElem?_eq_none_iff.mp h2
      have e1 : mFs.length = 114 := rfl
      have e2 : mCs.length = 114 := rfl
      omega
    | some ck =>
      refine so_all (ck, f) (List.mem_of_getElem? (i := o.1) ?_)
      rw [List.getElem?_zip_eq_some]
      exact ⟨h2, h⟩
theorem stp_mo (o : mOp) : sMo (mStp o) := by
  unfold mStp
  cases h : mFs[o.1]? with
  | none => intro o ls st S I L R q h; cases h
  | some f => exact mo_all f (List.mem_of_getElem? h)
/-- a run makes cells and places, and takes none away -/
theorem run_mo : ∀ (n d j pc : Nat) (ls st : List Value) (S : mS) (I : mI) (L : mL) (R : mR) (r : mRs), run n d j pc ls st S I L R = some r → S.1 ≤ r.2.1.1 ∧ S.2.1 ≤ r.2.1.2.1 := by
  intro n
  induction n with
  | zero => intro d j pc ls st S I L R r h; simp [run] at h
  | succ n ih =>
    intro d j pc ls st S I L R r h
    cases d with
    | zero => simp [run] at h
    | succ d =>
      rw [run] at h
      cases ho : opAt j pc with
      | none => rw [ho] at h; cases h
      | some o =>
        rw [ho] at h
        dsimp only at h
        by_cases h0 : o.1 = 0
        · rw [if_pos h0] at h
          cases hv : mRt o st with
          | none => rw [hv] at h; cases h
          | some v => rw [hv] at h; cases h; exact ⟨Nat.le_refl _, Nat.le_refl _⟩
        · rw [if_neg h0] at h
          by_cases h1 : o.1 = 1
          · rw [if_pos h1] at h
            cases hq : mAr o st S with
            | none => rw [hq] at h; cases h
            | some q =>
              rw [hq] at h
              dsimp only at h
              by_cases hcs : cs q.1 ≤ mxL o.2.2.1
              case neg => rw [if_neg hcs] at h; cases h
              rw [if_pos hcs] at h
              cases hr : run n d o.2.2.1 0 (ent (mxL o.2.2.1) q.1) [] S I L R with
              | none => rw [hr] at h; cases h
              | some r1 =>
                rw [hr] at h
                have a := ih _ _ _ _ _ _ _ _ _ _ hr
                have b := ih _ _ _ _ _ _ _ _ _ _ h
                exact ⟨Nat.le_trans a.1 b.1, Nat.le_trans a.2 b.2⟩
          · rw [if_neg h1] at h
            cases hq : mStp o o ls st S I L R with
            | none => rw [hq] at h; cases h
            | some q =>
              rw [hq] at h
              have a := stp_mo o o ls st S I L R q hq
              have b := ih _ _ _ _ _ _ _ _ _ _ h
              exact ⟨Nat.le_trans a.2.1 b.1, Nat.le_trans a.2.2 b.2⟩
abbrev mMe : Type := MethodName × ByteArray × Nat × Option FieldType
/-- the return fits the method -/
def ck_r (q : mMe) (pc : Nat) (o : mOp) : Bool :=
  (decide (o.2.2.1 = 0) && (decide (decode q.2.1 pc = .ok (.return_, 1)) && decide (q.2.2.2 = none))) ||
  ((decide (o.2.2.1 = 1) && (decide (decode q.2.1 pc = .ok (.ireturn, 1)) && decide (q.2.2.2 = some .int))) ||
  ((decide (o.2.2.1 = 2) && (decide (decode q.2.1 pc = .ok (.lreturn, 1)) && decide (q.2.2.2 = some .long))) ||
  ((decide (o.2.2.1 = 3) && (decide (decode q.2.1 pc = .ok (.areturn, 1)) && (match q.2.2.2 with | some (.object _) => true | some (.array _) => true | _ => false))) ||
  ((decide (o.2.2.1 = 4) && (decide (decode q.2.1 pc = .ok (.ireturn, 1)) && decide (q.2.2.2 = some .boolean))) ||
  ((decide (o.2.2.1 = 5) && (decide (decode q.2.1 pc = .ok (.ireturn, 1)) && decide (q.2.2.2 = some .byte))) ||
  (decide (o.2.2.1 = 6) && (decide (decode q.2.1 pc = .ok (.ireturn, 1)) && decide (q.2.2.2 = some .char))))))))
/-- the call fits the callee -/
def ck_l (q : mMe) (pc : Nat) (o : mOp) : Bool := match mTab[o.2.2.1]?, o.2.2.2.2.2 with
  | some y, [md, pu, i1, ic, ii, ia, ib, ix] =>
    decide (o.2.1 = pc + 3) && (wd ic (.code y.1 y.2.1 y.2.2.1 y.2.2.2) && (wd ii (.initialized y.1.cls) && (decide (y.1.cls ≠ "java/lang/invoke/MethodHandle" ∧ y.1.cls ≠ "java/lang/invoke/VarHandle") && (decide ((parseMethodDescriptor y.1.desc).map (fun d => d.parameters.length) = some o.2.2.2.1) && (decide (y.2.2.1 ≤ 40) && (decide (pu = if y.2.2.2 = none then 0 else 1) && (decide (0 ≤ ix) &&
    ((decide (md = 0) && (decide (decode q.2.1 pc = .ok (.invokevirtual ix.toNat, 3)) && (decide ((vwCl[o.2.2.2.2.1]?).map (fun r => r.1) = some y.1.cls) && (wd i1 (.methodLink q.1.cls ix.toNat y.1) && (wd ia (.instanceMethod y.1) && wd ib (.selects y.1.cls y.1 y.1)))))) ||
    ((decide (md = 1) && (decide (decode q.2.1 pc = .ok (.invokestatic ix.toNat, 3)) && (wd i1 (.methodLink q.1.cls ix.toNat y.1) && wd ia (.static y.1)))) ||
    ((decide (md = 2) && (decide (decode q.2.1 pc = .ok (.invokespecial ix.toNat, 3)) && (decide (y.2.2.2 = none) && (decide (y.1.name = "<init>") && (wd i1 (.methodLink q.1.cls ix.toNat y.1) && wd ia (.instanceMethod y.1)))))) ||
    ((decide (md = 4) && (decide (decode q.2.1 pc = .ok (.invokevirtual ix.toNat, 3)) && (decide (y.1.cls = "java/lang/String") && (wd i1 (.methodLink q.1.cls ix.toNat y.1) && (wd ia (.instanceMethod y.1) && wd ib (.selects y.1.cls y.1 y.1)))))) ||
    (decide (md = 3) && (decide (decode q.2.1 pc = .ok (.invokespecial ix.toNat, 3)) && (decide (y.2.2.2 = none) && (decide (y.1.name = "<init>") && (wsp (.methodLinkNest q.1.cls ix.toNat y.1 "HotIron") && wd ia (.instanceMethod y.1)))))))))))))))))
  | _, _ => false
def ck_o (q : mMe) (pc : Nat) (o : mOp) : Bool := if o.1 = 0 then ck_r q pc o else if o.1 = 1 then ck_l q pc o else mCk o q.1.cls q.1.name q.2.1 pc o
def ck_m (j : Nat) : Bool := match mTab[j]?, mCode[j]? with
  | some q, some l => plainName q.1.cls && l.all (fun z => ck_o q z.1 z.2)
  | _, _ => false
theorem mOf_mem {pc : Nat} {o : mOp} : ∀ {l : List (Nat × mOp)}, mOf l pc = some o → (pc, o) ∈ l
  | [], h => by cases h
  | q :: l, h => by
    unfold mOf at h
    by_cases hq : q.1 = pc
    · rw [if_pos hq] at h
      cases h
      subst hq
      exact List.mem_cons_self
    · rw [if_neg hq] at h
      exact List.mem_cons_of_mem _ (mOf_mem h)
theorem ck_m.op {j pc : Nat} {q : mMe} {o : mOp} (h : ck_m j = true) (hq : mTab[j]? = some q) (ho : opAt j pc = some o) : ck_o q pc o = true := by
  unfold ck_m at h
  unfold opAt at ho
  rw [hq] at h
  cases hl : mCode[j]? with
  | none => rw [hl] at ho; cases ho
  | some l =>
    rw [hl] at h ho
    dsimp only at h ho
    simp only [Bool.and_eq_true] at h
    exact List.all_eq_true.mp h.2 _ (mOf_mem ho)
theorem ck_m.plain {j : Nat} {q : mMe} (h : ck_m j = true) (hq : mTab[j]? = some q) : plainName q.1.cls = true := by
  unfold ck_m at h
  rw [hq] at h
  cases hl : mCode[j]? with
  | none => rw [hl] at h; cases h
  | some l =>
    rw [hl] at h
    simp only [Bool.and_eq_true] at h
    exact h.1
def gU (E : gE) (S : mS) (I : mI) (L : mL) (R : mR) (U : State) : Prop := gK E U ∧ gZ E U U.heap ∧ gH E S I L R U.heap
def gPc (E : gE) (as : List Value) (S : mS) (I : mI) (L : mL) (R : mR) : Array Value → State → Prop := fun a U => a = (as.map (grv E)).toArray ∧ gU E S I L R U
def gQ (E : gE) (ret : Option FieldType) (v : Value) (S : mS) (I : mI) (L : mL) (R : mR) : Array Value → State → Outcome → State → Prop := fun _ st oc t => oc = .returned (if ret = none then none else some (grv E v)) ∧ gH E S I L R t.heap ∧ st.heap.size ≤ t.heap.size ∧ ∀ q : Nat, q < st.heap.size → ¬ gA E q → t.heap[q]? = st.heap[q]?
theorem gK.moved {E : gE} {u U : State} (hvm : u.vm.Alike U.vm) (h : gK E u) : gK E U := ⟨fun c q hq => u_Kn_moved hvm (h.1 c q hq), fun k h1 h2 => ⟨arrOfT_moved hvm (h.2 k h1 h2).1, (h.2 k h1 h2).2.moved hvm⟩⟩
theorem gZ.moved {E : gE} {u U : State} {H H1 : Heap} (hW : u.WarmedH U.vm) (h : gZ E u H) (hB : E.2.2.1 ≤ H.size) (hq : ∀ a : Nat, a < H.size → ¬ gA E a → H1[a]? = H[a]?) : gZ E U H1 :=
  ⟨(h.1.moved hW.alike).kept hq, (h.2.1.moved hW.alike).kept hq, (h.2.2.1.moved hW.alike).kept hq, fun k hk => ⟨((h.2.2.2.1 k hk).1.moved hW.alike).kept hq, (h.2.2.2.1 k hk).2⟩, gsp_warm hW h.2.2.2.2.1, (h.2.2.2.2.2.1.moved hW.alike).kept hq, fun i hi => (h.2.2.2.2.2.2.1 i hi).warm hW, (h.2.2.2.2.2.2.2.1.moved hW.alike).kept hq, (h.2.2.2.2.2.2.2.2.moved hW.alike).kept hq⟩
theorem gPc.blind {E : gE} {as : List Value} {S : mS} {I : mI} {L : mL} {R : mR} : FrameBlind (gPc E as S I L R) := fun a U g mk h =>
  ⟨h.1, h.2.1.moved (u := U) (U := U.calling g mk a) (Vm.Alike.refl U.vm), h.2.2.1.moved (u := U) (U := U.calling g mk a) (State.WarmedH.refl U) (by rw [h.2.2.2.1.2]; omega) (fun _ _ _ => rfl), h.2.2.2⟩
theorem gt_good {y : MethodName} {cc : ByteArray} {mx : Nat} {ret : Option FieldType} (h : Cond.code y cc mx ret ∈ gt) : GoodIn gt (Cond.code y cc mx ret :: gt) := by
  intro w hw
  have hm : w ∈ gt := by
    rcases List.mem_cons.mp hw with rfl | hw
    · exact h
    · exact hw
  exact ⟨hm, good_of_word (List.mem_filter.mp hm).2⟩
/-- the end of a method: at its return the machine has what is wanted -/
def gFin (E : gE) (p : Program) (l : Launch) (e : Env) (Rm : Room) (s : State) (m : MethodId) (args : Array Value) (below : List Frame) (meth : Method) (c : Code) (j n0 u0 : Nat) (Q : State → Prop) (v : Value) (S : mS) (I : mI) (L : mL) (R : mR) : Prop :=
  ∀ (pc : Nat) (o : mOp) (st : List Value) (H : Heap) (locs : List Loc) (lsA : Array Slot), opAt j pc = some o → o.1 = 0 → mRt o st = some v → gH E S I L R H → va_S (gA E) s.heap H locs → W p l e Rm s m args below meth c H locs (S.1 - n0) (S.2.1 - u0) Q (F0 m pc lsA (st.map (grv E)))
theorem ent_get : ∀ (as : List Value) (n k : Nat) (E : gE) (i : Nat) (v : Value), (ent n as)[i]? = some v → (∀ z, v ≠ .retAddr z) → (k + i, grv E v) ∈ lv_args k (as.map (grv E))
  | [], n, k, E, i, v, h, hr => by
    simp only [ent] at h
    rw [List.getElem?_replicate] at h
    split at h
    · cases h; exact absurd rfl (hr 0)
    · cases h
  | a :: as, n, k, E, i, v, h, hr => by
    simp only [ent] at h
    simp only [List.map_cons, lv_args, grv_cat]
    by_cases hc : a.category = 2
    · rw [if_pos hc] at h ⊢
      match i, h with
      | 0, h => cases h; exact List.mem_cons_self
      | 1, h => cases h; exact absurd rfl (hr 0)
      | i + 2, h =>
        have := ent_get as (n - 2) (k + 2) E i v h hr
        rw [show k + 2 + i = k + (i + 2) by omega] at this
        exact List.mem_cons_of_mem _ this
    · rw [if_neg hc] at h ⊢
      match i, h with
      | 0, h => cases h; exact List.mem_cons_self
      | i + 1, h =>
        have := ent_get as (n - 1) (k + 1) E i v h hr
        rw [show k + 1 + i = k + (i + 1) by omega] at this
        exact List.mem_cons_of_mem _ this
theorem ent_len : ∀ (as : List Value) (n : Nat), cs as ≤ n → (ent n as).length = n
  | [], n, _ => by simp [ent]
  | a :: as, n, h => by
    simp only [cs] at h
    simp only [ent]
    rcases lv_cat a with hc | hc
    · rw [if_neg (by omega), List.length_cons, ent_len as (n - 1) (by omega)]; omega
    · rw [if_pos hc, List.length_cons, List.length_cons, ent_len as (n - 2) (by omega)]; omega
theorem sl_len (E : gE) : ∀ (as : List Value), (lg_sl (as.map (grv E))).length = cs as
  | [] => rfl
  | a :: as => by
    have ih := sl_len E as
    simp only [lg_sl, List.map_cons, List.flatMap_cons, List.length_append, cs, grv_cat] at ih ⊢
    rw [ih]
    rcases lv_cat a with hc | hc
    · rw [if_neg (by omega)]; simp [hc]
    · rw [if_pos hc]; simp [hc]
theorem nar_c {v : Int32} (hz : (v.toUInt32 % 65536).toInt32 = v) : narrow .char (.int v) = .int v := by
  have z := pk_nc v
  rw [hz] at z
  exact z
section MAIN
variable {E : gE} {l : Launch}
/-- a method's contract out of what its runs say -/
theorem met_of {d j : Nat} {q : mMe} {as : List Value} {v : Value} {S S' : mS} {I I' : mI} {L L' : mL} {R R' : mR} (hck : ck_m j = true) (hq : mTab[j]? = some q) (hcs : cs as ≤ q.2.2.1) (hcode : Cond.code q.1 q.2.1 q.2.2.1 q.2.2.2 ∈ gt)
    (hrun : ∀ (p : Program) (e : Env) (Rm : Room) (s : State) (m : MethodId) (args : Array Value) (below : List Frame) (meth : Method) (c : Code) (n0 u0 : Nat) (Q : State → Prop), gCx E p s m args meth c q.1.cls q.1.name q.2.1 q.2.2.1 q.2.2.2 → n0 ≤ S.1 → u0 ≤ S.2.1 → S'.1 - n0 ≤ Rm.cells → S'.2.1 - u0 ≤ Rm.slots → d ≤ Rm.frames → d * 64 ≤ Rm.locals → gFin E p l e Rm s m args below meth c j n0 u0 Q v S' I' L' R' → gW E p l e Rm s m args below meth c q.2.2.1 n0 u0 Q 0 (ent q.2.2.1 as) [] S I L R) :
    Met l q.1 (Cond.code q.1 q.2.1 q.2.2.1 q.2.2.2 :: gt) { frames := d, cells := S'.1 - S.1, slots := S'.2.1 - S.2.1, locals := d * 64 } (gPc E as S I L R) (gQ E q.2.2.2 v S' I' L' R') (S'.1 - S.1) (S'.2.1 - S.2.1) (gA E) := by
  refine Met.ofW (cc := q.2.1) (maxL := q.2.2.1) (ret := q.2.2.2) (ck_m.plain hck hq) rfl ?_
  intro p e s m args below meth c s₁ B hml hv
  obtain ⟨rfl, hU⟩ := hv
  have hts := atoms_spec (ws := Cond.code q.1 q.2.1 q.2.2.1 q.2.2.2 :: gt) B.pre
  have hC : gCx E p s m (as.map (grv E)).toArray meth c q.1.cls q.1.name q.2.1 q.2.2.1 q.2.2.2 := ⟨B.exec, B.bytes, B.returns, hml, findClass_of_methodNamed B.named, fun w hw => hts w (List.mem_cons_of_mem _ hw), B.notSynchronized, (fun h => (name_of_methodNamed B.named B.method).1.trans h), hU.1, hU.2.1, by rw [hU.2.2.1.2]; omega⟩
  have hl := lv_entry (as.map (grv E)) (n := q.2.2.1) (by rw [sl_len]; exact hcs)
  rw [lg_entry_eq]
  generalize (lg_sl (as.map (grv E)) ++ List.replicate (q.2.2.1 - (lg_sl (as.map (grv E))).length) Slot.unset).toArray = lsA at hl ⊢
  have hlo : gLo E lsA q.2.2.1 (ent q.2.2.1 as) := ⟨hl.1, hl.2.1, fun i x hx hr => by
    have := ent_get as q.2.2.1 0 E i x hx hr
    rw [Nat.zero_add] at this
    exact hl.2.2 _ this⟩
  have K := hrun p e { frames := d, cells := S'.1 - S.1, slots := S'.2.1 - S.2.1, locals := d * 64 } s m (as.map (grv E)).toArray below meth c S.1 S.2.1 (MQ below (gQ E q.2.2.2 v S' I' L' R') (as.map (grv E)).toArray s (S'.1 - S.1) (S'.2.1 - S.2.1) (gA E)) hC (Nat.le_refl _) (Nat.le_refl _) (Nat.le_refl _) (Nat.le_refl _) (Nat.le_refl _) (Nat.le_refl _) ?_ s.heap [] lsA hU.2.2 va_S.rf hlo
  · rw [Nat.sub_self, Nat.sub_self] at K
    exact K
  · intro pc o st H locs lsB ho h0 hrt hH hS
    have hlocks : meth.locks = false := B.notSynchronized
    have hko := ck_m.op hck hq ho
    unfold ck_o at hko
    rw [if_pos h0] at hko
    have hqq : ∀ t : State, t.heap = H → ∀ oc : Outcome, oc = .returned (if q.2.2.2 = none then none else some (grv E v)) → gQ E q.2.2.2 v S' I' L' R' (as.map (grv E)).toArray s oc t := fun t ht oc hoc => ⟨hoc, by rw [ht]; exact hH, by rw [ht]; exact hS.1, fun z h1 h2 => by rw [ht]; exact hS.2.1 z h1 h2⟩
    have hff : ∀ z ∈ locs, gA E z.base := hS.2.2
    unfold ck_r at hko
    simp only [Bool.or_eq_true, Bool.and_eq_true, decide_eq_true_eq] at hko
    unfold mRt at hrt
    rcases hko with ⟨k1, k2, k3⟩ | ⟨k1, k2, k3⟩ | ⟨k1, k2, k3⟩ | ⟨k1, k2, k3⟩ | ⟨k1, k2, k3⟩ | ⟨k1, k2, k3⟩ | ⟨k1, k2, k3⟩
    · rw [k1] at hrt
      split at hrt
      · cases hrt
        exact W.vret hC.1 hC.2.1 (hC.2.2.1.trans k3) (fun t ht _ => hqq t ht _ (by rw [if_pos k3])) hff k2
      all_goals first | (rename_i h9; exact absurd h9 (by decide)) | contradiction | (cases hrt; done) | skip
    · rw [k1] at hrt
      split at hrt
      · contradiction
      · cases hrt
        exact W.iret hC.1 hC.2.1 (hC.2.2.1.trans k3) (fun t ht _ => hqq t ht _ (by rw [k3]; rfl)) hff k2
      all_goals first | (rename_i h9; exact absurd h9 (by decide)) | contradiction | (cases hrt; done) | skip
    · rw [k1] at hrt
      split at hrt
      · contradiction
      · contradiction
      · cases hrt
        exact W.lret hC.1 hC.2.1 (hC.2.2.1.trans k3) (fun t ht _ => hqq t ht _ (by rw [k3]; rfl)) hff k2
      all_goals first | (rename_i h9; exact absurd h9 (by decide)) | contradiction | (cases hrt; done) | skip
    · obtain ⟨rt, hrt9, hrt8⟩ : ∃ rt, q.2.2.2 = some rt ∧ ((∃ n, rt = .object n) ∨ ∃ t, rt = .array t) := by
        revert k3
        cases q.2.2.2 with
        | none => intro k3; cases k3
        | some rt => cases rt <;> intro k3 <;> first | exact ⟨_, rfl, Or.inl ⟨_, rfl⟩⟩ | exact ⟨_, rfl, Or.inr ⟨_, rfl⟩⟩ | cases k3
      rw [k1] at hrt
      split at hrt
      · contradiction
      · contradiction
      · contradiction
      · cases hrt
        exact W.aret hC.1 hC.2.1 (hC.2.2.1.trans hrt9) hrt8 (Or.inr ⟨_, rfl⟩) (fun t ht _ => hqq t ht _ (by rw [hrt9]; rfl)) hff k2
      · cases hrt
        exact W.aret hC.1 hC.2.1 (hC.2.2.1.trans hrt9) hrt8 (Or.inl rfl) (fun t ht _ => hqq t ht _ (by rw [hrt9]; rfl)) hff k2
      all_goals first | (rename_i h9; exact absurd h9 (by decide)) | contradiction | (cases hrt; done) | skip
    · rw [k1] at hrt
      split at hrt
      · contradiction
      · contradiction
      · contradiction
      · contradiction
      · contradiction
      · split at hrt
        · rename_i hz
          cases hrt
          exact W.zret hC.1 hC.2.1 (hC.2.2.1.trans k3) (nz hz).1 (fun t ht _ => hqq t ht _ (by rw [k3]; rfl)) hff k2
        · cases hrt
      all_goals first | (rename_i h9; exact absurd h9 (by decide)) | contradiction | (cases hrt; done) | skip
    · rw [k1] at hrt
      split at hrt
      all_goals first
        | contradiction
        | (split at hrt
           · rename_i hz
             cases hrt
             exact W.zret hC.1 hC.2.1 (hC.2.2.1.trans k3) (by show Value.int _ = _; rw [hz]) (fun t ht _ => hqq t ht _ (by rw [k3]; rfl)) hff k2
           · cases hrt)
        | (rename_i h9; exact absurd h9 (by decide))
        | (cases hrt; done)
    · rw [k1] at hrt
      split at hrt
      all_goals first
        | contradiction
        | (split at hrt
           · rename_i hz
             cases hrt
             exact W.zret hC.1 hC.2.1 (hC.2.2.1.trans k3) (nar_c hz) (fun t ht _ => hqq t ht _ (by rw [k3]; rfl)) hff k2
           · cases hrt)
        | (rename_i h9; exact absurd h9 (by decide))
        | (cases hrt; done)
end MAIN
