abbrev nX6_isOfKind : Nat := 126
def kX6_isOfKind_0 : List Instr := [.iload 1, .ifCond .eq 9, .iload 1, .iload 0, .if_icmp .ne 11, .iconst 1, .freturn]
def kX6_isOfKind_9 : List Instr := [.iconst 1, .freturn]
def kX6_isOfKind_11 : List Instr := [.iload 1, .iconst 1, .if_icmp .ne 32, .iload 0, .iconst 2, .if_icmp .eq 26, .iload 0, .iconst 3, .if_icmp .ne 30, .iconst 1, .goto 31]
def kX6_isOfKind_26 : List Instr := [.iconst 1, .goto 31]
def kX6_isOfKind_30 : List Instr := [.iconst 0, .freturn]
def kX6_isOfKind_31 : List Instr := [.freturn]
def kX6_isOfKind_32 : List Instr := [.iload 1, .iconst 4, .if_icmp .ne 46, .iload 0, .iconst 5, .if_icmp .ne 46, .iconst 1, .goto 47]
def kX6_isOfKind_46 : List Instr := [.iconst 0, .freturn]
def kX6_isOfKind_47 : List Instr := [.freturn]
def tX6_isOfKind : Bt := [(0, kX6_isOfKind_0), (9, kX6_isOfKind_9), (11, kX6_isOfKind_11), (26, kX6_isOfKind_26), (30, kX6_isOfKind_30), (31, kX6_isOfKind_31), (32, kX6_isOfKind_32), (46, kX6_isOfKind_46), (47, kX6_isOfKind_47)]
theorem tX6_isOfKind_0 : tb tX6_isOfKind 0 = kX6_isOfKind_0 := rfl
theorem tX6_isOfKind_9 : tb tX6_isOfKind 9 = kX6_isOfKind_9 := rfl
theorem tX6_isOfKind_11 : tb tX6_isOfKind 11 = kX6_isOfKind_11 := rfl
theorem tX6_isOfKind_26 : tb tX6_isOfKind 26 = kX6_isOfKind_26 := rfl
theorem tX6_isOfKind_30 : tb tX6_isOfKind 30 = kX6_isOfKind_30 := rfl
theorem tX6_isOfKind_31 : tb tX6_isOfKind 31 = kX6_isOfKind_31 := rfl
theorem tX6_isOfKind_32 : tb tX6_isOfKind 32 = kX6_isOfKind_32 := rfl
theorem tX6_isOfKind_46 : tb tX6_isOfKind 46 = kX6_isOfKind_46 := rfl
theorem tX6_isOfKind_47 : tb tX6_isOfKind 47 = kX6_isOfKind_47 := rfl
theorem oX6_isOfKind : okT 126 tX6_isOfKind = true := by decide +kernel
theorem eX6_isOfKind {d : Nat} {Q : Qt} {M : Mm} {L : Ml} (a0 : Int32) (a1 : Int32) (h : wpN 126 d tX6_isOfKind Q 60 0 [some (.int a0), some (.int a1)] [] M L) : Good d 126 [.int a0, .int a1] M L Q :=
  good_of (x := []) (mF_pn 126 (by decide)) (mF_cn 126 (by decide)) rfl (by rw [show mL 126 = 2 by decide +kernel]; exact (show 2 ≤ 2 by decide)) rfl (by simp) (wpN_runs oX6_isOfKind 60 0 _ _ _ _ h)
abbrev nX7_in : Nat := 127
def kX7_in_0 : List Instr := [.iload 0, .iload 1, .if_icmp .lt 14, .iload 0, .iload 2, .if_icmp .gt 14, .iconst 1, .goto 15]
def kX7_in_14 : List Instr := [.iconst 0, .freturn]
def kX7_in_15 : List Instr := [.freturn]
def tX7_in : Bt := [(0, kX7_in_0), (14, kX7_in_14), (15, kX7_in_15)]
theorem tX7_in_0 : tb tX7_in 0 = kX7_in_0 := rfl
theorem tX7_in_14 : tb tX7_in 14 = kX7_in_14 := rfl
theorem tX7_in_15 : tb tX7_in 15 = kX7_in_15 := rfl
theorem oX7_in : okT 127 tX7_in = true := by decide +kernel
theorem eX7_in {d : Nat} {Q : Qt} {M : Mm} {L : Ml} (a0 : Int32) (a1 : Int32) (a2 : Int32) (h : wpN 127 d tX7_in Q 60 0 [some (.int a0), some (.int a1), some (.int a2)] [] M L) : Good d 127 [.int a0, .int a1, .int a2] M L Q :=
  good_of (x := []) (mF_pn 127 (by decide)) (mF_cn 127 (by decide)) rfl (by rw [show mL 127 = 3 by decide +kernel]; exact (show 3 ≤ 3 by decide)) rfl (by simp) (wpN_runs oX7_in 60 0 _ _ _ _ h)
abbrev nX7_has : Nat := 128
def kX7_has_0 : List Instr := [.iload 0, .iload 1, .ishr, .iconst 1, .iand, .iconst 1, .if_icmp .ne 13, .iconst 1, .goto 14]
def kX7_has_13 : List Instr := [.iconst 0, .freturn]
def kX7_has_14 : List Instr := [.freturn]
def tX7_has : Bt := [(0, kX7_has_0), (13, kX7_has_13), (14, kX7_has_14)]
theorem tX7_has_0 : tb tX7_has 0 = kX7_has_0 := rfl
theorem tX7_has_13 : tb tX7_has 13 = kX7_has_13 := rfl
theorem tX7_has_14 : tb tX7_has 14 = kX7_has_14 := rfl
theorem oX7_has : okT 128 tX7_has = true := by decide +kernel
theorem eX7_has {d : Nat} {Q : Qt} {M : Mm} {L : Ml} (a0 : Int32) (a1 : Int32) (h : wpN 128 d tX7_has Q 60 0 [some (.int a0), some (.int a1)] [] M L) : Good d 128 [.int a0, .int a1] M L Q :=
  good_of (x := []) (mF_pn 128 (by decide)) (mF_cn 128 (by decide)) rfl (by rw [show mL 128 = 2 by decide +kernel]; exact (show 2 ≤ 2 by decide)) rfl (by simp) (wpN_runs oX7_has 60 0 _ _ _ _ h)
abbrev nX7_found : Nat := 129
def kX7_found_0 : List Instr := [.aload 0, .iload 1, .putfield 227, .iconst (-1000010), .iload 1, .isub, .ireturn]
def tX7_found : Bt := [(0, kX7_found_0)]
theorem tX7_found_0 : tb tX7_found 0 = kX7_found_0 := rfl
theorem oX7_found : okT 129 tX7_found = true := by decide +kernel
theorem eX7_found {d : Nat} {Q : Qt} {M : Mm} {L : Ml} (a0 : Nat) (a1 : Int32) (h : wpN 129 d tX7_found Q 60 0 [some (.ref a0), some (.int a1)] [] M L) : Good d 129 [.ref a0, .int a1] M L Q :=
  good_of (x := []) (mF_pn 129 (by decide)) (mF_cn 129 (by decide)) rfl (by rw [show mL 129 = 2 by decide +kernel]; exact (show 2 ≤ 2 by decide)) rfl (by simp) (wpN_runs oX7_found 60 0 _ _ _ _ h)
abbrev nX7_well : Nat := 130
def kX7_well_0 : List Instr := [.aload 0, .iconst 0, .putfield 227, .iload 1, .ireturn]
def tX7_well : Bt := [(0, kX7_well_0)]
theorem tX7_well_0 : tb tX7_well 0 = kX7_well_0 := rfl
theorem oX7_well : okT 130 tX7_well = true := by decide +kernel
theorem eX7_well {d : Nat} {Q : Qt} {M : Mm} {L : Ml} (a0 : Nat) (a1 : Int32) (h : wpN 130 d tX7_well Q 60 0 [some (.ref a0), some (.int a1)] [] M L) : Good d 130 [.ref a0, .int a1] M L Q :=
  good_of (x := []) (mF_pn 130 (by decide)) (mF_cn 130 (by decide)) rfl (by rw [show mL 130 = 2 by decide +kernel]; exact (show 2 ≤ 2 by decide)) rfl (by simp) (wpN_runs oX7_well 60 0 _ _ _ _ h)
abbrev nX7_isRow : Nat := 131
def kX7_isRow_0 : List Instr := [.iload 0, .iconst 0, .iconst 7, .multianewarray 127 3, .freturn]
def tX7_isRow : Bt := [(0, kX7_isRow_0)]
theorem tX7_isRow_0 : tb tX7_isRow 0 = kX7_isRow_0 := rfl
theorem oX7_isRow : okT 131 tX7_isRow = true := by decide +kernel
theorem eX7_isRow {d : Nat} {Q : Qt} {M : Mm} {L : Ml} (a0 : Int32) (h : wpN 131 d tX7_isRow Q 60 0 [some (.int a0)] [] M L) : Good d 131 [.int a0] M L Q :=
  good_of (x := []) (mF_pn 131 (by decide)) (mF_cn 131 (by decide)) rfl (by rw [show mL 131 = 1 by decide +kernel]; exact (show 1 ≤ 1 by decide)) rfl (by simp) (wpN_runs oX7_isRow 60 0 _ _ _ _ h)
abbrev nX7_row : Nat := 132
def kX7_row_0 : List Instr := [.iload 1, .multianewarray 131 1, .ifCond .eq 22, .iload 2, .iconst 0, .iconst 2, .multianewarray 127 3, .ifCond .eq 22, .iload 3, .iconst 40, .if_icmp .le 25, .iconst (-1000001), .ireturn]
def kX7_row_22 : List Instr := [.iconst (-1000001), .ireturn]
def kX7_row_25 : List Instr := [.iload 3, .ifCond .ge 35, .aload 0, .iconst 4, .invokeinterface 129 114, .ireturn]
def kX7_row_35 : List Instr := [.aload 0, .getstatic 224, .iload 1, .iload 2, .iastore, .aload 0, .getstatic 225, .iload 1, .iload 3, .iastore, .iconst 0, .istore 4, .ret 52]
def kX7_row_52 : List Instr := [.ret 52]
def kX7_row_78 : List Instr := [.aload 0, .iload 3, .invokeinterface 130 114, .ireturn]
def hX7_row_52 : List Instr := [.iload 4, .iconst 40, .if_icmp .ge 78, .aload 0, .getstatic 226, .iconst 40, .iload 1, .imul, .iload 4, .iadd, .iconst 0, .iastore, .iinc 4 1, .goto 52]
def tX7_row : Bt := [(0, kX7_row_0), (22, kX7_row_22), (25, kX7_row_25), (35, kX7_row_35), (52, kX7_row_52), (78, kX7_row_78)]
theorem tX7_row_0 : tb tX7_row 0 = kX7_row_0 := rfl
theorem tX7_row_22 : tb tX7_row 22 = kX7_row_22 := rfl
theorem tX7_row_25 : tb tX7_row 25 = kX7_row_25 := rfl
theorem tX7_row_35 : tb tX7_row 35 = kX7_row_35 := rfl
theorem tX7_row_52 : tb tX7_row 52 = kX7_row_52 := rfl
theorem tX7_row_78 : tb tX7_row 78 = kX7_row_78 := rfl
theorem oX7_row : okT 132 tX7_row = true := by decide +kernel
theorem oX7_row_52 : okB 132 52 hX7_row_52 = true := by decide +kernel
theorem eX7_row {d : Nat} {Q : Qt} {M : Mm} {L : Ml} (a0 : Nat) (a1 : Int32) (a2 : Int32) (a3 : Int32) (h : wpN 132 d tX7_row Q 60 0 [some (.ref a0), some (.int a1), some (.int a2), some (.int a3), none] [] M L) : Good d 132 [.ref a0, .int a1, .int a2, .int a3] M L Q :=
  good_of (x := [none]) (mF_pn 132 (by decide)) (mF_cn 132 (by decide)) rfl (by rw [show mL 132 = 5 by decide +kernel]; exact (show 4 ≤ 5 by decide)) rfl (by simp) (wpN_runs oX7_row 60 0 _ _ _ _ h)
abbrev nX7_lowest : Nat := 133
def kX7_lowest_0 : List Instr := [.iload 0, .ifCond .ne 9, .iload 1, .i2b, .goto 20]
def kX7_lowest_9 : List Instr := [.iload 0, .iconst 1, .if_icmp .ne 19, .iload 1, .i2s, .goto 20]
def kX7_lowest_19 : List Instr := [.iload 1, .ireturn]
def kX7_lowest_20 : List Instr := [.ireturn]
def tX7_lowest : Bt := [(0, kX7_lowest_0), (9, kX7_lowest_9), (19, kX7_lowest_19), (20, kX7_lowest_20)]
theorem tX7_lowest_0 : tb tX7_lowest 0 = kX7_lowest_0 := rfl
theorem tX7_lowest_9 : tb tX7_lowest 9 = kX7_lowest_9 := rfl
theorem tX7_lowest_19 : tb tX7_lowest 19 = kX7_lowest_19 := rfl
theorem tX7_lowest_20 : tb tX7_lowest 20 = kX7_lowest_20 := rfl
theorem oX7_lowest : okT 133 tX7_lowest = true := by decide +kernel
theorem eX7_lowest {d : Nat} {Q : Qt} {M : Mm} {L : Ml} (a0 : Int32) (a1 : Int32) (h : wpN 133 d tX7_lowest Q 60 0 [some (.int a0), some (.int a1)] [] M L) : Good d 133 [.int a0, .int a1] M L Q :=
  good_of (x := []) (mF_pn 133 (by decide)) (mF_cn 133 (by decide)) rfl (by rw [show mL 133 = 2 by decide +kernel]; exact (show 2 ≤ 2 by decide)) rfl (by simp) (wpN_runs oX7_lowest 60 0 _ _ _ _ h)
abbrev nX7_set : Nat := 134
def kX7_set_0 : List Instr := [.iload 1, .multianewarray 131 1, .ifCond .ne 10, .iconst (-1000001), .ireturn]
def kX7_set_10 : List Instr := [.aload 0, .getstatic 224, .iload 1, .iaload, .ifCond .ge 25, .aload 0, .iconst 1, .invokeinterface 129 114, .ireturn]
def kX7_set_25 : List Instr := [.iload 2, .iconst 0, .aload 0, .getstatic 225, .iload 1, .iaload, .iconst 1, .isub, .multianewarray 127 3, .ifCond .ne 47, .aload 0, .iconst 2, .invokeinterface 129 114, .ireturn]
def kX7_set_47 : List Instr := [.aload 0, .getstatic 226, .iconst 40, .iload 1, .imul, .iload 2, .iadd, .aload 0, .getstatic 224, .iload 1, .iaload, .iload 3, .multianewarray 133 2, .iastore, .aload 0, .aload 0, .getstatic 226, .iconst 40, .iload 1, .imul, .iload 2, .iadd, .iaload, .invokeinterface 130 114, .ireturn]
def tX7_set : Bt := [(0, kX7_set_0), (10, kX7_set_10), (25, kX7_set_25), (47, kX7_set_47)]
theorem tX7_set_0 : tb tX7_set 0 = kX7_set_0 := rfl
theorem tX7_set_10 : tb tX7_set 10 = kX7_set_10 := rfl
theorem tX7_set_25 : tb tX7_set 25 = kX7_set_25 := rfl
theorem tX7_set_47 : tb tX7_set 47 = kX7_set_47 := rfl
theorem oX7_set : okT 134 tX7_set = true := by decide +kernel
theorem eX7_set {d : Nat} {Q : Qt} {M : Mm} {L : Ml} (a0 : Nat) (a1 : Int32) (a2 : Int32) (a3 : Int32) (h : wpN 134 d tX7_set Q 60 0 [some (.ref a0), some (.int a1), some (.int a2), some (.int a3)] [] M L) : Good d 134 [.ref a0, .int a1, .int a2, .int a3] M L Q :=
  good_of (x := []) (mF_pn 134 (by decide)) (mF_cn 134 (by decide)) rfl (by rw [show mL 134 = 4 by decide +kernel]; exact (show 4 ≤ 4 by decide)) rfl (by simp) (wpN_runs oX7_set 60 0 _ _ _ _ h)
abbrev nX7_areIn : Nat := 135
def kX7_areIn_0 : List Instr := [.iload 2, .ifCond .lt 24, .iload 3, .ifCond .lt 24, .iload 2, .aload 0, .getstatic 225, .iload 1, .iaload, .iload 3, .isub, .if_icmp .gt 24, .iconst 1, .goto 25]
def kX7_areIn_24 : List Instr := [.iconst 0, .freturn]
def kX7_areIn_25 : List Instr := [.freturn]
def tX7_areIn : Bt := [(0, kX7_areIn_0), (24, kX7_areIn_24), (25, kX7_areIn_25)]
theorem tX7_areIn_0 : tb tX7_areIn 0 = kX7_areIn_0 := rfl
theorem tX7_areIn_24 : tb tX7_areIn 24 = kX7_areIn_24 := rfl
theorem tX7_areIn_25 : tb tX7_areIn 25 = kX7_areIn_25 := rfl
theorem oX7_areIn : okT 135 tX7_areIn = true := by decide +kernel
theorem eX7_areIn {d : Nat} {Q : Qt} {M : Mm} {L : Ml} (a0 : Nat) (a1 : Int32) (a2 : Int32) (a3 : Int32) (h : wpN 135 d tX7_areIn Q 60 0 [some (.ref a0), some (.int a1), some (.int a2), some (.int a3)] [] M L) : Good d 135 [.ref a0, .int a1, .int a2, .int a3] M L Q :=
  good_of (x := []) (mF_pn 135 (by decide)) (mF_cn 135 (by decide)) rfl (by rw [show mL 135 = 4 by decide +kernel]; exact (show 4 ≤ 4 by decide)) rfl (by simp) (wpN_runs oX7_areIn 60 0 _ _ _ _ h)
abbrev nX7_copy : Nat := 136
def kX7_copy_0 : List Instr := [.iload 1, .multianewarray 131 1, .ifCond .eq 14, .iload 3, .multianewarray 131 1, .ifCond .ne 17, .iconst (-1000001), .ireturn]
def kX7_copy_14 : List Instr := [.iconst (-1000001), .ireturn]
def kX7_copy_17 : List Instr := [.aload 0, .getstatic 224, .iload 1, .iaload, .ifCond .lt 35, .aload 0, .getstatic 224, .iload 3, .iaload, .ifCond .ge 41, .aload 0, .iconst 1, .invokeinterface 129 114, .ireturn]
def kX7_copy_35 : List Instr := [.aload 0, .iconst 1, .invokeinterface 129 114, .ireturn]
def kX7_copy_41 : List Instr := [.aload 0, .getstatic 224, .iload 1, .iaload, .aload 0, .getstatic 224, .iload 3, .iaload, .if_icmp .eq 62, .aload 0, .iconst 5, .invokeinterface 129 114, .ireturn]
def kX7_copy_62 : List Instr := [.aload 0, .iload 1, .iload 2, .iload 5, .invokeinterface 135 116, .ifCond .eq 85, .aload 0, .iload 3, .iload 4, .iload 5, .invokeinterface 135 116, .ifCond .ne 91, .aload 0, .iconst 2, .invokeinterface 129 114, .ireturn]
def kX7_copy_85 : List Instr := [.aload 0, .iconst 2, .invokeinterface 129 114, .ireturn]
def kX7_copy_91 : List Instr := [.iconst 0, .istore 6, .ret 94]
def kX7_copy_94 : List Instr := [.ret 94]
def kX7_copy_128 : List Instr := [.iconst 0, .istore 6, .ret 131]
def kX7_copy_131 : List Instr := [.ret 131]
def kX7_copy_166 : List Instr := [.aload 0, .iload 5, .invokeinterface 130 114, .ireturn]
def hX7_copy_94 : List Instr := [.iload 6, .iload 5, .if_icmp .ge 128, .aload 0, .getstatic 228, .iload 6, .aload 0, .getstatic 226, .iconst 40, .iload 1, .imul, .iload 2, .iadd, .iload 6, .iadd, .iaload, .iastore, .iinc 6 1, .goto 94]
def hX7_copy_131 : List Instr := [.iload 6, .iload 5, .if_icmp .ge 166, .aload 0, .getstatic 226, .iconst 40, .iload 3, .imul, .iload 4, .iadd, .iload 6, .iadd, .aload 0, .getstatic 228, .iload 6, .iaload, .iastore, .iinc 6 1, .goto 131]
def tX7_copy : Bt := [(0, kX7_copy_0), (14, kX7_copy_14), (17, kX7_copy_17), (35, kX7_copy_35), (41, kX7_copy_41), (62, kX7_copy_62), (85, kX7_copy_85), (91, kX7_copy_91), (94, kX7_copy_94), (128, kX7_copy_128), (131, kX7_copy_131), (166, kX7_copy_166)]
theorem tX7_copy_0 : tb tX7_copy 0 = kX7_copy_0 := rfl
theorem tX7_copy_14 : tb tX7_copy 14 = kX7_copy_14 := rfl
theorem tX7_copy_17 : tb tX7_copy 17 = kX7_copy_17 := rfl
theorem tX7_copy_35 : tb tX7_copy 35 = kX7_copy_35 := rfl
theorem tX7_copy_41 : tb tX7_copy 41 = kX7_copy_41 := rfl
theorem tX7_copy_62 : tb tX7_copy 62 = kX7_copy_62 := rfl
theorem tX7_copy_85 : tb tX7_copy 85 = kX7_copy_85 := rfl
theorem tX7_copy_91 : tb tX7_copy 91 = kX7_copy_91 := rfl
theorem tX7_copy_94 : tb tX7_copy 94 = kX7_copy_94 := rfl
theorem tX7_copy_128 : tb tX7_copy 128 = kX7_copy_128 := rfl
theorem tX7_copy_131 : tb tX7_copy 131 = kX7_copy_131 := rfl
theorem tX7_copy_166 : tb tX7_copy 166 = kX7_copy_166 := rfl
theorem oX7_copy : okT 136 tX7_copy = true := by decide +kernel
theorem oX7_copy_94 : okB 136 94 hX7_copy_94 = true := by decide +kernel
theorem oX7_copy_131 : okB 136 131 hX7_copy_131 = true := by decide +kernel
theorem eX7_copy {d : Nat} {Q : Qt} {M : Mm} {L : Ml} (a0 : Nat) (a1 : Int32) (a2 : Int32) (a3 : Int32) (a4 : Int32) (a5 : Int32) (h : wpN 136 d tX7_copy Q 60 0 [some (.ref a0), some (.int a1), some (.int a2), some (.int a3), some (.int a4), some (.int a5), none] [] M L) : Good d 136 [.ref a0, .int a1, .int a2, .int a3, .int a4, .int a5] M L Q :=
  good_of (x := [none]) (mF_pn 136 (by decide)) (mF_cn 136 (by decide)) rfl (by rw [show mL 136 = 7 by decide +kernel]; exact (show 6 ≤ 7 by decide)) rfl (by simp) (wpN_runs oX7_copy 60 0 _ _ _ _ h)
abbrev nX7_drop : Nat := 137
def kX7_drop_0 : List Instr := [.iload 1, .multianewarray 131 1, .ifCond .ne 10, .iconst (-1000001), .ireturn]
def kX7_drop_10 : List Instr := [.aload 0, .getstatic 224, .iload 1, .iaload, .ifCond .ge 25, .aload 0, .iconst 1, .invokeinterface 129 114, .ireturn]
def kX7_drop_25 : List Instr := [.aload 0, .getstatic 224, .iload 1, .iconst (-1), .iastore, .aload 0, .aload 0, .getstatic 225, .iload 1, .iaload, .invokeinterface 130 114, .ireturn]
def tX7_drop : Bt := [(0, kX7_drop_0), (10, kX7_drop_10), (25, kX7_drop_25)]
theorem tX7_drop_0 : tb tX7_drop 0 = kX7_drop_0 := rfl
theorem tX7_drop_10 : tb tX7_drop 10 = kX7_drop_10 := rfl
theorem tX7_drop_25 : tb tX7_drop 25 = kX7_drop_25 := rfl
theorem oX7_drop : okT 137 tX7_drop = true := by decide +kernel
theorem eX7_drop {d : Nat} {Q : Qt} {M : Mm} {L : Ml} (a0 : Nat) (a1 : Int32) (h : wpN 137 d tX7_drop Q 60 0 [some (.ref a0), some (.int a1)] [] M L) : Good d 137 [.ref a0, .int a1] M L Q :=
  good_of (x := []) (mF_pn 137 (by decide)) (mF_cn 137 (by decide)) rfl (by rw [show mL 137 = 2 by decide +kernel]; exact (show 2 ≤ 2 by decide)) rfl (by simp) (wpN_runs oX7_drop 60 0 _ _ _ _ h)
abbrev nX7_take : Nat := 138
def kX7_take_0 : List Instr := [.iconst 0, .istore 1, .ret 2]
def kX7_take_2 : List Instr := [.ret 2]
def kX7_take_26 : List Instr := [.return_]
def hX7_take_2 : List Instr := [.iload 1, .iconst 54, .if_icmp .ge 26, .aload 0, .getstatic 231, .iload 1, .aload 0, .getstatic 230, .iload 1, .iaload, .iastore, .iinc 1 1, .goto 2]
def tX7_take : Bt := [(0, kX7_take_0), (2, kX7_take_2), (26, kX7_take_26)]
theorem tX7_take_0 : tb tX7_take 0 = kX7_take_0 := rfl
theorem tX7_take_2 : tb tX7_take 2 = kX7_take_2 := rfl
theorem tX7_take_26 : tb tX7_take 26 = kX7_take_26 := rfl
theorem oX7_take : okT 138 tX7_take = true := by decide +kernel
theorem oX7_take_2 : okB 138 2 hX7_take_2 = true := by decide +kernel
theorem eX7_take {d : Nat} {Q : Qt} {M : Mm} {L : Ml} (a0 : Nat) (h : wpN 138 d tX7_take Q 60 0 [some (.ref a0), none] [] M L) : Good d 138 [.ref a0] M L Q :=
  good_of (x := [none]) (mF_pn 138 (by decide)) (mF_cn 138 (by decide)) rfl (by rw [show mL 138 = 2 by decide +kernel]; exact (show 1 ≤ 2 by decide)) rfl (by simp) (wpN_runs oX7_take 60 0 _ _ _ _ h)
abbrev nX7_know : Nat := 139
def kX7_know_0 : List Instr := [.aload 0, .getfield 233, .iconst 24, .if_icmp .ne 49, .iconst 0, .istore 1, .ret 11]
def kX7_know_11 : List Instr := [.ret 11]
def kX7_know_39 : List Instr := [.aload 0, .dup, .getfield 233, .iconst 1, .isub, .putfield 233, .iconst 0, .istore 1, .ret 51]
def kX7_know_49 : List Instr := [.iconst 0, .istore 1, .ret 51]
def kX7_know_51 : List Instr := [.ret 51]
def kX7_know_83 : List Instr := [.aload 0, .dup, .getfield 233, .iconst 1, .iadd, .putfield 233, .return_]
def hX7_know_11 : List Instr := [.iload 1, .iconst 1242, .if_icmp .ge 39, .aload 0, .getstatic 232, .iload 1, .aload 0, .getstatic 232, .iconst 54, .iload 1, .iadd, .iaload, .iastore, .iinc 1 1, .goto 11]
def hX7_know_51 : List Instr := [.iload 1, .iconst 54, .if_icmp .ge 83, .aload 0, .getstatic 232, .iconst 54, .aload 0, .getfield 233, .imul, .iload 1, .iadd, .aload 0, .getstatic 230, .iload 1, .iaload, .iastore, .iinc 1 1, .goto 51]
def tX7_know : Bt := [(0, kX7_know_0), (11, kX7_know_11), (39, kX7_know_39), (49, kX7_know_49), (51, kX7_know_51), (83, kX7_know_83)]
theorem tX7_know_0 : tb tX7_know 0 = kX7_know_0 := rfl
theorem tX7_know_11 : tb tX7_know 11 = kX7_know_11 := rfl
theorem tX7_know_39 : tb tX7_know 39 = kX7_know_39 := rfl
theorem tX7_know_49 : tb tX7_know 49 = kX7_know_49 := rfl
theorem tX7_know_51 : tb tX7_know 51 = kX7_know_51 := rfl
theorem tX7_know_83 : tb tX7_know 83 = kX7_know_83 := rfl
theorem oX7_know : okT 139 tX7_know = true := by decide +kernel
theorem oX7_know_11 : okB 139 11 hX7_know_11 = true := by decide +kernel
theorem oX7_know_51 : okB 139 51 hX7_know_51 = true := by decide +kernel
theorem eX7_know {d : Nat} {Q : Qt} {M : Mm} {L : Ml} (a0 : Nat) (h : wpN 139 d tX7_know Q 60 0 [some (.ref a0), none] [] M L) : Good d 139 [.ref a0] M L Q :=
  good_of (x := [none]) (mF_pn 139 (by decide)) (mF_cn 139 (by decide)) rfl (by rw [show mL 139 = 2 by decide +kernel]; exact (show 1 ≤ 2 by decide)) rfl (by simp) (wpN_runs oX7_know 60 0 _ _ _ _ h)
abbrev nX7_isPlayer : Nat := 140
def kX7_isPlayer_0 : List Instr := [.iload 1, .iconst 0, .aload 0, .getstatic 230, .iconst 0, .iaload, .iconst 1, .isub, .multianewarray 127 3, .freturn]
def tX7_isPlayer : Bt := [(0, kX7_isPlayer_0)]
theorem tX7_isPlayer_0 : tb tX7_isPlayer 0 = kX7_isPlayer_0 := rfl
theorem oX7_isPlayer : okT 140 tX7_isPlayer = true := by decide +kernel
theorem eX7_isPlayer {d : Nat} {Q : Qt} {M : Mm} {L : Ml} (a0 : Nat) (a1 : Int32) (h : wpN 140 d tX7_isPlayer Q 60 0 [some (.ref a0), some (.int a1)] [] M L) : Good d 140 [.ref a0, .int a1] M L Q :=
  good_of (x := []) (mF_pn 140 (by decide)) (mF_cn 140 (by decide)) rfl (by rw [show mL 140 = 2 by decide +kernel]; exact (show 2 ≤ 2 by decide)) rfl (by simp) (wpN_runs oX7_isPlayer 60 0 _ _ _ _ h)
abbrev nX7_seatBy : Nat := 141
def kX7_seatBy_0 : List Instr := [.aload 0, .iconst 0, .iaload, .istore 3, .iload 1, .iload 2, .iadd, .iload 3, .iadd, .iload 3, .irem, .ireturn]
def tX7_seatBy : Bt := [(0, kX7_seatBy_0)]
theorem tX7_seatBy_0 : tb tX7_seatBy 0 = kX7_seatBy_0 := rfl
theorem oX7_seatBy : okT 141 tX7_seatBy = true := by decide +kernel
theorem eX7_seatBy {d : Nat} {Q : Qt} {M : Mm} {L : Ml} (a0 : Nat) (a1 : Int32) (a2 : Int32) (h : wpN 141 d tX7_seatBy Q 60 0 [some (.ref a0), some (.int a1), some (.int a2), none] [] M L) : Good d 141 [.ref a0, .int a1, .int a2] M L Q :=
  good_of (x := [none]) (mF_pn 141 (by decide)) (mF_cn 141 (by decide)) rfl (by rw [show mL 141 = 4 by decide +kernel]; exact (show 3 ≤ 4 by decide)) rfl (by simp) (wpN_runs oX7_seatBy 60 0 _ _ _ _ h)
abbrev nX7_nextLiving : Nat := 142
def kX7_nextLiving_0 : List Instr := [.iconst 1, .istore 2, .ret 2]
def kX7_nextLiving_2 : List Instr := [.ret 2]
def kX7_nextLiving_29 : List Instr := [.iinc 2 1, .goto 2]
def kX7_nextLiving_35 : List Instr := [.iconst (-1), .ireturn]
def hX7_nextLiving_2 : List Instr := [.iload 2, .aload 0, .iconst 0, .iaload, .if_icmp .ge 35, .iload 1, .iload 2, .iadd, .aload 0, .iconst 0, .iaload, .irem, .istore 3, .aload 0, .iconst 46, .iload 3, .iadd, .iaload, .iconst 2, .if_icmp .eq 29, .iload 3, .ireturn]
def tX7_nextLiving : Bt := [(0, kX7_nextLiving_0), (2, kX7_nextLiving_2), (29, kX7_nextLiving_29), (35, kX7_nextLiving_35)]
theorem tX7_nextLiving_0 : tb tX7_nextLiving 0 = kX7_nextLiving_0 := rfl
theorem tX7_nextLiving_2 : tb tX7_nextLiving 2 = kX7_nextLiving_2 := rfl
theorem tX7_nextLiving_29 : tb tX7_nextLiving 29 = kX7_nextLiving_29 := rfl
theorem tX7_nextLiving_35 : tb tX7_nextLiving 35 = kX7_nextLiving_35 := rfl
theorem oX7_nextLiving : okT 142 tX7_nextLiving = true := by decide +kernel
theorem oX7_nextLiving_2 : okB 142 2 hX7_nextLiving_2 = true := by decide +kernel
theorem eX7_nextLiving {d : Nat} {Q : Qt} {M : Mm} {L : Ml} (a0 : Nat) (a1 : Int32) (h : wpN 142 d tX7_nextLiving Q 60 0 [some (.ref a0), some (.int a1), none, none] [] M L) : Good d 142 [.ref a0, .int a1] M L Q :=
  good_of (x := [none, none]) (mF_pn 142 (by decide)) (mF_cn 142 (by decide)) rfl (by rw [show mL 142 = 4 by decide +kernel]; exact (show 2 ≤ 4 by decide)) rfl (by simp) (wpN_runs oX7_nextLiving 60 0 _ _ _ _ h)
abbrev nX7_roves : Nat := 143
def kX7_roves_0 : List Instr := [.aload 0, .iconst 14, .iload 1, .iadd, .iaload, .ifCond .ge 13, .iload 1, .goto 19]
def kX7_roves_13 : List Instr := [.aload 0, .iconst 14, .iload 1, .iadd, .iaload, .istore 3, .aload 0, .iload 3, .iload 2, .multianewarray 141 3, .istore 4, .iload 4, .iload 1, .if_icmp .ne 44, .aload 0, .iload 4, .iload 2, .multianewarray 141 3, .goto 46]
def kX7_roves_19 : List Instr := [.istore 3, .aload 0, .iload 3, .iload 2, .multianewarray 141 3, .istore 4, .iload 4, .iload 1, .if_icmp .ne 44, .aload 0, .iload 4, .iload 2, .multianewarray 141 3, .goto 46]
def kX7_roves_44 : List Instr := [.iload 4, .ireturn]
def kX7_roves_46 : List Instr := [.ireturn]
def tX7_roves : Bt := [(0, kX7_roves_0), (13, kX7_roves_13), (19, kX7_roves_19), (44, kX7_roves_44), (46, kX7_roves_46)]
theorem tX7_roves_0 : tb tX7_roves 0 = kX7_roves_0 := rfl
theorem tX7_roves_13 : tb tX7_roves 13 = kX7_roves_13 := rfl
theorem tX7_roves_19 : tb tX7_roves 19 = kX7_roves_19 := rfl
theorem tX7_roves_44 : tb tX7_roves 44 = kX7_roves_44 := rfl
theorem tX7_roves_46 : tb tX7_roves 46 = kX7_roves_46 := rfl
theorem oX7_roves : okT 143 tX7_roves = true := by decide +kernel
theorem eX7_roves {d : Nat} {Q : Qt} {M : Mm} {L : Ml} (a0 : Nat) (a1 : Int32) (a2 : Int32) (h : wpN 143 d tX7_roves Q 60 0 [some (.ref a0), some (.int a1), some (.int a2), none, none] [] M L) : Good d 143 [.ref a0, .int a1, .int a2] M L Q :=
  good_of (x := [none, none]) (mF_pn 143 (by decide)) (mF_cn 143 (by decide)) rfl (by rw [show mL 143 = 5 by decide +kernel]; exact (show 3 ≤ 5 by decide)) rfl (by simp) (wpN_runs oX7_roves 60 0 _ _ _ _ h)
abbrev nX7_lookOf : Nat := 144
def kX7_lookOf_0 : List Instr := [.aload 0, .iconst 46, .iload 1, .iadd, .iaload, .iconst 2, .if_icmp .eq 20, .aload 0, .iconst 5, .iaload, .iload 1, .multianewarray 128 2, .ifCond .eq 22, .iconst (-1), .ireturn]
def kX7_lookOf_20 : List Instr := [.iconst (-1), .ireturn]
def kX7_lookOf_22 : List Instr := [.aload 0, .iconst 6, .iload 1, .iadd, .iaload, .lookupswitch 87 #[(1, 60), (2, 67), (3, 74), (4, 81)]]
def kX7_lookOf_60 : List Instr := [.aload 0, .iload 1, .iconst 1, .multianewarray 143 3, .ireturn]
def kX7_lookOf_67 : List Instr := [.aload 0, .iconst 14, .iload 1, .iadd, .iaload, .ireturn]
def kX7_lookOf_74 : List Instr := [.aload 0, .iload 1, .iconst (-1), .multianewarray 143 3, .ireturn]
def kX7_lookOf_81 : List Instr := [.aload 0, .iload 1, .multianewarray 142 2, .ireturn]
def kX7_lookOf_87 : List Instr := [.aload 0, .iconst 4, .iaload, .iconst 2, .irem, .ifCond .ne 103, .aload 0, .iload 1, .multianewarray 142 2, .goto 104]
def kX7_lookOf_103 : List Instr := [.iconst (-1), .ireturn]
def kX7_lookOf_104 : List Instr := [.ireturn]
def tX7_lookOf : Bt := [(0, kX7_lookOf_0), (20, kX7_lookOf_20), (22, kX7_lookOf_22), (60, kX7_lookOf_60), (67, kX7_lookOf_67), (74, kX7_lookOf_74), (81, kX7_lookOf_81), (87, kX7_lookOf_87), (103, kX7_lookOf_103), (104, kX7_lookOf_104)]
theorem tX7_lookOf_0 : tb tX7_lookOf 0 = kX7_lookOf_0 := rfl
theorem tX7_lookOf_20 : tb tX7_lookOf 20 = kX7_lookOf_20 := rfl
theorem tX7_lookOf_22 : tb tX7_lookOf 22 = kX7_lookOf_22 := rfl
theorem tX7_lookOf_60 : tb tX7_lookOf 60 = kX7_lookOf_60 := rfl
theorem tX7_lookOf_67 : tb tX7_lookOf 67 = kX7_lookOf_67 := rfl
theorem tX7_lookOf_74 : tb tX7_lookOf 74 = kX7_lookOf_74 := rfl
theorem tX7_lookOf_81 : tb tX7_lookOf 81 = kX7_lookOf_81 := rfl
theorem tX7_lookOf_87 : tb tX7_lookOf 87 = kX7_lookOf_87 := rfl
theorem tX7_lookOf_103 : tb tX7_lookOf 103 = kX7_lookOf_103 := rfl
theorem tX7_lookOf_104 : tb tX7_lookOf 104 = kX7_lookOf_104 := rfl
theorem oX7_lookOf : okT 144 tX7_lookOf = true := by decide +kernel
theorem eX7_lookOf {d : Nat} {Q : Qt} {M : Mm} {L : Ml} (a0 : Nat) (a1 : Int32) (h : wpN 144 d tX7_lookOf Q 60 0 [some (.ref a0), some (.int a1)] [] M L) : Good d 144 [.ref a0, .int a1] M L Q :=
  good_of (x := []) (mF_pn 144 (by decide)) (mF_cn 144 (by decide)) rfl (by rw [show mL 144 = 2 by decide +kernel]; exact (show 2 ≤ 2 by decide)) rfl (by simp) (wpN_runs oX7_lookOf 60 0 _ _ _ _ h)
abbrev nX7_wink : Nat := 145
def kX7_wink_0 : List Instr := [.aload 0, .iconst 1, .iaload, .istore 1, .aload 0, .iconst 14, .iload 1, .iadd, .iaload, .istore 2, .aload 0, .iconst 3, .iaload, .iconst 1, .if_icmp .eq 51, .aload 0, .iconst 46, .iload 1, .iadd, .iaload, .iconst 2, .if_icmp .eq 51, .iload 2, .ifCond .lt 51, .aload 0, .iconst 46, .iload 2, .iadd, .iaload, .ifCond .ne 51, .aload 0, .iconst 14, .iload 2, .iadd, .iaload, .iload 1, .if_icmp .eq 52, .return_]
def kX7_wink_51 : List Instr := [.return_]
def kX7_wink_52 : List Instr := [.aload 0, .iconst 46, .iload 2, .iadd, .iconst 1, .iastore, .aload 0, .iconst 30, .iload 2, .iadd, .aload 0, .iconst 22, .iload 2, .iadd, .iaload, .iconst 1, .iadd, .iastore, .iconst 0, .istore 3, .ret 75]
def kX7_wink_75 : List Instr := [.ret 75]
def kX7_wink_139 : List Instr := [.iconst 99, .iastore, .aload 0, .iconst 3, .aload 0, .iconst 38, .iload 3, .iadd, .iaload, .aload 0, .iconst 2, .iaload, .if_icmp .lt 160, .iconst 1, .goto 163]
def kX7_wink_141 : List Instr := [.iastore, .aload 0, .iconst 3, .aload 0, .iconst 38, .iload 3, .iadd, .iaload, .aload 0, .iconst 2, .iaload, .if_icmp .lt 160, .iconst 1, .goto 163]
def kX7_wink_160 : List Instr := [.aload 0, .iconst 3, .iaload, .iastore, .iinc 3 1, .goto 75]
def kX7_wink_163 : List Instr := [.iastore, .iinc 3 1, .goto 75]
def kX7_wink_164 : List Instr := [.iinc 3 1, .goto 75]
def kX7_wink_170 : List Instr := [.return_]
def hX7_wink_75 : List Instr := [.iload 3, .aload 0, .iconst 0, .iaload, .if_icmp .ge 170, .iload 3, .iload 1, .if_icmp .eq 164, .iload 3, .iload 2, .if_icmp .eq 164, .aload 0, .iconst 46, .iload 3, .iadd, .iaload, .iconst 2, .if_icmp .eq 164, .aload 0, .iconst 14, .iload 3, .iadd, .iaload, .iload 1, .if_icmp .ne 164, .aload 0, .iconst 38, .iload 3, .iadd, .aload 0, .iconst 38, .iload 3, .iadd, .iaload, .iconst 99, .if_icmp .ge 139, .aload 0, .iconst 38, .iload 3, .iadd, .iaload, .iconst 1, .iadd, .goto 141]
def tX7_wink : Bt := [(0, kX7_wink_0), (51, kX7_wink_51), (52, kX7_wink_52), (75, kX7_wink_75), (139, kX7_wink_139), (141, kX7_wink_141), (160, kX7_wink_160), (163, kX7_wink_163), (164, kX7_wink_164), (170, kX7_wink_170)]
theorem tX7_wink_0 : tb tX7_wink 0 = kX7_wink_0 := rfl
theorem tX7_wink_51 : tb tX7_wink 51 = kX7_wink_51 := rfl
theorem tX7_wink_52 : tb tX7_wink 52 = kX7_wink_52 := rfl
theorem tX7_wink_75 : tb tX7_wink 75 = kX7_wink_75 := rfl
theorem tX7_wink_139 : tb tX7_wink 139 = kX7_wink_139 := rfl
theorem tX7_wink_141 : tb tX7_wink 141 = kX7_wink_141 := rfl
theorem tX7_wink_160 : tb tX7_wink 160 = kX7_wink_160 := rfl
theorem tX7_wink_163 : tb tX7_wink 163 = kX7_wink_163 := rfl
theorem tX7_wink_164 : tb tX7_wink 164 = kX7_wink_164 := rfl
theorem tX7_wink_170 : tb tX7_wink 170 = kX7_wink_170 := rfl
theorem oX7_wink : okT 145 tX7_wink = true := by decide +kernel
theorem oX7_wink_75 : okB 145 75 hX7_wink_75 = true := by decide +kernel
theorem eX7_wink {d : Nat} {Q : Qt} {M : Mm} {L : Ml} (a0 : Nat) (h : wpN 145 d tX7_wink Q 60 0 [some (.ref a0), none, none, none] [] M L) : Good d 145 [.ref a0] M L Q :=
  good_of (x := [none, none, none]) (mF_pn 145 (by decide)) (mF_cn 145 (by decide)) rfl (by rw [show mL 145 = 4 by decide +kernel]; exact (show 1 ≤ 4 by decide)) rfl (by simp) (wpN_runs oX7_wink 60 0 _ _ _ _ h)
abbrev nX7_passOn : Nat := 146
def kX7_passOn_0 : List Instr := [.iconst 0, .istore 2, .ret 2]
def kX7_passOn_2 : List Instr := [.ret 2]
def kX7_passOn_26 : List Instr := [.iconst 0, .istore 2, .ret 28]
def kX7_passOn_28 : List Instr := [.ret 28]
def kX7_passOn_53 : List Instr := [.aload 1, .multianewarray 145 1, .iconst 0, .istore 2, .iconst 0, .istore 3, .ret 61]
def kX7_passOn_61 : List Instr := [.ret 61]
def kX7_passOn_114 : List Instr := [.iinc 3 1, .goto 61]
def kX7_passOn_120 : List Instr := [.aload 1, .iconst 4, .dup2, .iaload, .iconst 1, .iadd, .iastore, .iload 2, .ireturn]
def hX7_passOn_2 : List Instr := [.iload 2, .aload 1, .iconst 0, .iaload, .if_icmp .ge 26, .aload 0, .getstatic 236, .iload 2, .aload 1, .iload 2, .multianewarray 144 2, .iastore, .iinc 2 1, .goto 2]
def hX7_passOn_28 : List Instr := [.iload 2, .aload 1, .iconst 0, .iaload, .if_icmp .ge 53, .aload 1, .iconst 14, .iload 2, .iadd, .aload 0, .getstatic 236, .iload 2, .iaload, .iastore, .iinc 2 1, .goto 28]
def hX7_passOn_61 : List Instr := [.iload 3, .aload 1, .iconst 0, .iaload, .if_icmp .ge 120, .aload 1, .iconst 46, .iload 3, .iadd, .iaload, .iconst 1, .if_icmp .ne 114, .aload 1, .iconst 30, .iload 3, .iadd, .dup2, .iaload, .iconst 1, .isub, .iastore, .aload 1, .iconst 30, .iload 3, .iadd, .iaload, .ifCond .ne 114, .aload 1, .iconst 46, .iload 3, .iadd, .iconst 2, .iastore, .aload 1, .iconst 14, .iload 3, .iadd, .iconst (-1), .iastore, .iinc 2 1, .iinc 3 1, .goto 61]
def tX7_passOn : Bt := [(0, kX7_passOn_0), (2, kX7_passOn_2), (26, kX7_passOn_26), (28, kX7_passOn_28), (53, kX7_passOn_53), (61, kX7_passOn_61), (114, kX7_passOn_114), (120, kX7_passOn_120)]
theorem tX7_passOn_0 : tb tX7_passOn 0 = kX7_passOn_0 := rfl
theorem tX7_passOn_2 : tb tX7_passOn 2 = kX7_passOn_2 := rfl
theorem tX7_passOn_26 : tb tX7_passOn 26 = kX7_passOn_26 := rfl
theorem tX7_passOn_28 : tb tX7_passOn 28 = kX7_passOn_28 := rfl
theorem tX7_passOn_53 : tb tX7_passOn 53 = kX7_passOn_53 := rfl
theorem tX7_passOn_61 : tb tX7_passOn 61 = kX7_passOn_61 := rfl
theorem tX7_passOn_114 : tb tX7_passOn 114 = kX7_passOn_114 := rfl
theorem tX7_passOn_120 : tb tX7_passOn 120 = kX7_passOn_120 := rfl
theorem oX7_passOn : okT 146 tX7_passOn = true := by decide +kernel
theorem oX7_passOn_2 : okB 146 2 hX7_passOn_2 = true := by decide +kernel
theorem oX7_passOn_28 : okB 146 28 hX7_passOn_28 = true := by decide +kernel
theorem oX7_passOn_61 : okB 146 61 hX7_passOn_61 = true := by decide +kernel
theorem eX7_passOn {d : Nat} {Q : Qt} {M : Mm} {L : Ml} (a0 : Nat) (a1 : Nat) (h : wpN 146 d tX7_passOn Q 60 0 [some (.ref a0), some (.ref a1), none, none] [] M L) : Good d 146 [.ref a0, .ref a1] M L Q :=
  good_of (x := [none, none]) (mF_pn 146 (by decide)) (mF_cn 146 (by decide)) rfl (by rw [show mL 146 = 4 by decide +kernel]; exact (show 2 ≤ 4 by decide)) rfl (by simp) (wpN_runs oX7_passOn 60 0 _ _ _ _ h)
abbrev nX7_giveRole : Nat := 147
def kX7_giveRole_0 : List Instr := [.aload 0, .iconst 1, .iload 1, .iastore, .aload 0, .iconst 3, .iconst 0, .iastore, .iconst 0, .istore 2, .ret 10]
def kX7_giveRole_10 : List Instr := [.ret 10]
def kX7_giveRole_29 : List Instr := [.return_]
def hX7_giveRole_10 : List Instr := [.iload 2, .iconst 8, .if_icmp .ge 29, .aload 0, .iconst 38, .iload 2, .iadd, .iconst 0, .iastore, .iinc 2 1, .goto 10]
def tX7_giveRole : Bt := [(0, kX7_giveRole_0), (10, kX7_giveRole_10), (29, kX7_giveRole_29)]
theorem tX7_giveRole_0 : tb tX7_giveRole 0 = kX7_giveRole_0 := rfl
theorem tX7_giveRole_10 : tb tX7_giveRole 10 = kX7_giveRole_10 := rfl
theorem tX7_giveRole_29 : tb tX7_giveRole 29 = kX7_giveRole_29 := rfl
theorem oX7_giveRole : okT 147 tX7_giveRole = true := by decide +kernel
theorem oX7_giveRole_10 : okB 147 10 hX7_giveRole_10 = true := by decide +kernel
theorem eX7_giveRole {d : Nat} {Q : Qt} {M : Mm} {L : Ml} (a0 : Nat) (a1 : Int32) (h : wpN 147 d tX7_giveRole Q 60 0 [some (.ref a0), some (.int a1), none] [] M L) : Good d 147 [.ref a0, .int a1] M L Q :=
  good_of (x := [none]) (mF_pn 147 (by decide)) (mF_cn 147 (by decide)) rfl (by rw [show mL 147 = 3 by decide +kernel]; exact (show 2 ≤ 3 by decide)) rfl (by simp) (wpN_runs oX7_giveRole 60 0 _ _ _ _ h)
abbrev nX7_sitUp : Nat := 148
def kX7_sitUp_0 : List Instr := [.aload 0, .iconst 46, .iload 1, .iadd, .iconst 0, .iastore, .aload 0, .iconst 38, .iload 1, .iadd, .iconst 0, .iastore, .aload 0, .iconst 30, .iload 1, .iadd, .iconst 0, .iastore, .aload 0, .iconst 14, .iload 1, .iadd, .aload 0, .iload 1, .iconst 1, .multianewarray 141 3, .iastore, .return_]
def tX7_sitUp : Bt := [(0, kX7_sitUp_0)]
theorem tX7_sitUp_0 : tb tX7_sitUp 0 = kX7_sitUp_0 := rfl
theorem oX7_sitUp : okT 148 tX7_sitUp = true := by decide +kernel
theorem eX7_sitUp {d : Nat} {Q : Qt} {M : Mm} {L : Ml} (a0 : Nat) (a1 : Int32) (h : wpN 148 d tX7_sitUp Q 60 0 [some (.ref a0), some (.int a1)] [] M L) : Good d 148 [.ref a0, .int a1] M L Q :=
  good_of (x := []) (mF_pn 148 (by decide)) (mF_cn 148 (by decide)) rfl (by rw [show mL 148 = 2 by decide +kernel]; exact (show 2 ≤ 2 by decide)) rfl (by simp) (wpN_runs oX7_sitUp 60 0 _ _ _ _ h)
abbrev nX7_those : Nat := 149
def kX7_those_0 : List Instr := [.iconst 0, .istore 2, .iconst 0, .istore 3, .ret 4]
def kX7_those_4 : List Instr := [.ret 4]
def kX7_those_28 : List Instr := [.iconst 0, .ior, .istore 2, .iinc 3 1, .goto 4]
def kX7_those_29 : List Instr := [.ior, .istore 2, .iinc 3 1, .goto 4]
def kX7_those_37 : List Instr := [.iload 2, .ireturn]
def hX7_those_4 : List Instr := [.iload 3, .aload 0, .iconst 0, .iaload, .if_icmp .ge 37, .iload 2, .aload 0, .iconst 46, .iload 3, .iadd, .iaload, .iload 1, .if_icmp .ne 28, .iconst 1, .iload 3, .ishl, .goto 29]
def tX7_those : Bt := [(0, kX7_those_0), (4, kX7_those_4), (28, kX7_those_28), (29, kX7_those_29), (37, kX7_those_37)]
theorem tX7_those_0 : tb tX7_those 0 = kX7_those_0 := rfl
theorem tX7_those_4 : tb tX7_those 4 = kX7_those_4 := rfl
theorem tX7_those_28 : tb tX7_those 28 = kX7_those_28 := rfl
theorem tX7_those_29 : tb tX7_those 29 = kX7_those_29 := rfl
theorem tX7_those_37 : tb tX7_those 37 = kX7_those_37 := rfl
theorem oX7_those : okT 149 tX7_those = true := by decide +kernel
theorem oX7_those_4 : okB 149 4 hX7_those_4 = true := by decide +kernel
theorem eX7_those {d : Nat} {Q : Qt} {M : Mm} {L : Ml} (a0 : Nat) (a1 : Int32) (h : wpN 149 d tX7_those Q 60 0 [some (.ref a0), some (.int a1), none, none] [] M L) : Good d 149 [.ref a0, .int a1] M L Q :=
  good_of (x := [none, none]) (mF_pn 149 (by decide)) (mF_cn 149 (by decide)) rfl (by rw [show mL 149 = 4 by decide +kernel]; exact (show 2 ≤ 4 by decide)) rfl (by simp) (wpN_runs oX7_those 60 0 _ _ _ _ h)
abbrev nX7_bitsOf : Nat := 150
def kX7_bitsOf_0 : List Instr := [.iconst 0, .istore 1, .iconst 0, .istore 2, .ret 4]
def kX7_bitsOf_4 : List Instr := [.ret 4]
def kX7_bitsOf_24 : List Instr := [.iload 1, .ireturn]
def hX7_bitsOf_4 : List Instr := [.iload 2, .iconst 9, .if_icmp .ge 24, .iload 1, .iload 0, .iload 2, .ishr, .iconst 1, .iand, .iadd, .istore 1, .iinc 2 1, .goto 4]
def tX7_bitsOf : Bt := [(0, kX7_bitsOf_0), (4, kX7_bitsOf_4), (24, kX7_bitsOf_24)]
theorem tX7_bitsOf_0 : tb tX7_bitsOf 0 = kX7_bitsOf_0 := rfl
theorem tX7_bitsOf_4 : tb tX7_bitsOf 4 = kX7_bitsOf_4 := rfl
theorem tX7_bitsOf_24 : tb tX7_bitsOf 24 = kX7_bitsOf_24 := rfl
theorem oX7_bitsOf : okT 150 tX7_bitsOf = true := by decide +kernel
theorem oX7_bitsOf_4 : okB 150 4 hX7_bitsOf_4 = true := by decide +kernel
theorem eX7_bitsOf {d : Nat} {Q : Qt} {M : Mm} {L : Ml} (a0 : Int32) (h : wpN 150 d tX7_bitsOf Q 60 0 [some (.int a0), none, none] [] M L) : Good d 150 [.int a0] M L Q :=
  good_of (x := [none, none]) (mF_pn 150 (by decide)) (mF_cn 150 (by decide)) rfl (by rw [show mL 150 = 3 by decide +kernel]; exact (show 1 ≤ 3 by decide)) rfl (by simp) (wpN_runs oX7_bitsOf 60 0 _ _ _ _ h)
abbrev nX7_dead : Nat := 151
def kX7_dead_0 : List Instr := [.aload 0, .iconst 2, .multianewarray 149 2, .multianewarray 150 1, .ireturn]
def tX7_dead : Bt := [(0, kX7_dead_0)]
theorem tX7_dead_0 : tb tX7_dead 0 = kX7_dead_0 := rfl
theorem oX7_dead : okT 151 tX7_dead = true := by decide +kernel
theorem eX7_dead {d : Nat} {Q : Qt} {M : Mm} {L : Ml} (a0 : Nat) (h : wpN 151 d tX7_dead Q 60 0 [some (.ref a0)] [] M L) : Good d 151 [.ref a0] M L Q :=
  good_of (x := []) (mF_pn 151 (by decide)) (mF_cn 151 (by decide)) rfl (by rw [show mL 151 = 1 by decide +kernel]; exact (show 1 ≤ 1 by decide)) rfl (by simp) (wpN_runs oX7_dead 60 0 _ _ _ _ h)
abbrev nX7_feed : Nat := 152
def kX7_feed_0 : List Instr := [.iload 1, .iconst 0, .iconst 255, .multianewarray 127 3, .ifCond .ne 14, .iconst (-1000001), .ireturn]
def kX7_feed_14 : List Instr := [.aload 0, .getfield 238, .iconst 100, .if_icmp .ne 26, .iconst (-1000003), .ireturn]
def kX7_feed_26 : List Instr := [.aload 0, .getstatic 237, .aload 0, .getfield 238, .iload 1, .i2b, .bastore, .aload 0, .dup, .getfield 238, .iconst 1, .iadd, .putfield 238, .aload 0, .getfield 238, .ireturn]
def tX7_feed : Bt := [(0, kX7_feed_0), (14, kX7_feed_14), (26, kX7_feed_26)]
theorem tX7_feed_0 : tb tX7_feed 0 = kX7_feed_0 := rfl
theorem tX7_feed_14 : tb tX7_feed 14 = kX7_feed_14 := rfl
theorem tX7_feed_26 : tb tX7_feed 26 = kX7_feed_26 := rfl
theorem oX7_feed : okT 152 tX7_feed = true := by decide +kernel
theorem eX7_feed {d : Nat} {Q : Qt} {M : Mm} {L : Ml} (a0 : Nat) (a1 : Int32) (h : wpN 152 d tX7_feed Q 60 0 [some (.ref a0), some (.int a1)] [] M L) : Good d 152 [.ref a0, .int a1] M L Q :=
  good_of (x := []) (mF_pn 152 (by decide)) (mF_cn 152 (by decide)) rfl (by rw [show mL 152 = 2 by decide +kernel]; exact (show 2 ≤ 2 by decide)) rfl (by simp) (wpN_runs oX7_feed 60 0 _ _ _ _ h)
abbrev nX7_here : Nat := 153
def kX7_here_0 : List Instr := [.aload 0, .getfield 240, .aload 0, .getfield 238, .if_icmp .ge 27, .aload 0, .getstatic 237, .aload 0, .getfield 240, .baload, .iconst 255, .iand, .goto 28]
def kX7_here_27 : List Instr := [.iconst (-1), .ireturn]
def kX7_here_28 : List Instr := [.ireturn]
def tX7_here : Bt := [(0, kX7_here_0), (27, kX7_here_27), (28, kX7_here_28)]
theorem tX7_here_0 : tb tX7_here 0 = kX7_here_0 := rfl
theorem tX7_here_27 : tb tX7_here 27 = kX7_here_27 := rfl
theorem tX7_here_28 : tb tX7_here 28 = kX7_here_28 := rfl
theorem oX7_here : okT 153 tX7_here = true := by decide +kernel
theorem eX7_here {d : Nat} {Q : Qt} {M : Mm} {L : Ml} (a0 : Nat) (h : wpN 153 d tX7_here Q 60 0 [some (.ref a0)] [] M L) : Good d 153 [.ref a0] M L Q :=
  good_of (x := []) (mF_pn 153 (by decide)) (mF_cn 153 (by decide)) rfl (by rw [show mL 153 = 1 by decide +kernel]; exact (show 1 ≤ 1 by decide)) rfl (by simp) (wpN_runs oX7_here 60 0 _ _ _ _ h)
abbrev nX7_step : Nat := 154
def kX7_step_0 : List Instr := [.aload 0, .aload 0, .getfield 240, .putfield 241, .aload 0, .aload 0, .invokeinterface 153 113, .putfield 243, .aload 0, .getfield 243, .ifCond .ge 31, .aload 0, .iconst 3, .putfield 242, .goto 182]
def kX7_step_31 : List Instr := [.aload 0, .getfield 243, .iconst 48, .iconst 57, .multianewarray 127 3, .ifCond .eq 127, .iconst 0, .istore 1, .ret 47]
def kX7_step_47 : List Instr := [.ret 47]
def kX7_step_71 : List Instr := [.iconst 10, .iload 1, .imul, .aload 0, .invokeinterface 153 113, .iadd, .iconst 48, .isub, .istore 1, .aload 0, .dup, .getfield 240, .iconst 1, .iadd, .putfield 240, .goto 47]
def kX7_step_83 : List Instr := [.istore 1, .aload 0, .dup, .getfield 240, .iconst 1, .iadd, .putfield 240, .goto 47]
def kX7_step_97 : List Instr := [.aload 0, .aload 0, .getfield 240, .aload 0, .getfield 241, .isub, .iconst 2, .if_icmp .le 115, .iconst 4, .goto 116]
def kX7_step_115 : List Instr := [.iconst 1, .putfield 242, .aload 0, .iload 1, .putfield 243, .goto 182]
def kX7_step_116 : List Instr := [.putfield 242, .aload 0, .iload 1, .putfield 243, .goto 182]
def kX7_step_127 : List Instr := [.aload 0, .dup, .getfield 240, .iconst 1, .iadd, .putfield 240, .aload 0, .aload 0, .getfield 243, .iconst 97, .iconst 122, .multianewarray 127 3, .ifCond .eq 156, .iconst 0, .goto 179]
def kX7_step_156 : List Instr := [.aload 0, .getfield 243, .iconst 59, .if_icmp .eq 174, .aload 0, .getfield 243, .iconst 44, .if_icmp .ne 178, .iconst 2, .goto 179]
def kX7_step_174 : List Instr := [.iconst 2, .goto 179]
def kX7_step_178 : List Instr := [.iconst 4, .putfield 242, .return_]
def kX7_step_179 : List Instr := [.putfield 242, .return_]
def kX7_step_182 : List Instr := [.return_]
def hX7_step_47 : List Instr := [.aload 0, .invokeinterface 153 113, .iconst 48, .iconst 57, .multianewarray 127 3, .ifCond .eq 97, .iload 1, .iconst 99, .if_icmp .le 71, .iload 1, .goto 83]
def tX7_step : Bt := [(0, kX7_step_0), (31, kX7_step_31), (47, kX7_step_47), (71, kX7_step_71), (83, kX7_step_83), (97, kX7_step_97), (115, kX7_step_115), (116, kX7_step_116), (127, kX7_step_127), (156, kX7_step_156), (174, kX7_step_174), (178, kX7_step_178), (179, kX7_step_179), (182, kX7_step_182)]
theorem tX7_step_0 : tb tX7_step 0 = kX7_step_0 := rfl
theorem tX7_step_31 : tb tX7_step 31 = kX7_step_31 := rfl
theorem tX7_step_47 : tb tX7_step 47 = kX7_step_47 := rfl
theorem tX7_step_71 : tb tX7_step 71 = kX7_step_71 := rfl
theorem tX7_step_83 : tb tX7_step 83 = kX7_step_83 := rfl
theorem tX7_step_97 : tb tX7_step 97 = kX7_step_97 := rfl
theorem tX7_step_115 : tb tX7_step 115 = kX7_step_115 := rfl
theorem tX7_step_116 : tb tX7_step 116 = kX7_step_116 := rfl
theorem tX7_step_127 : tb tX7_step 127 = kX7_step_127 := rfl
theorem tX7_step_156 : tb tX7_step 156 = kX7_step_156 := rfl
theorem tX7_step_174 : tb tX7_step 174 = kX7_step_174 := rfl
theorem tX7_step_178 : tb tX7_step 178 = kX7_step_178 := rfl
theorem tX7_step_179 : tb tX7_step 179 = kX7_step_179 := rfl
theorem tX7_step_182 : tb tX7_step 182 = kX7_step_182 := rfl
theorem oX7_step : okT 154 tX7_step = true := by decide +kernel
theorem oX7_step_47 : okB 154 47 hX7_step_47 = true := by decide +kernel
theorem eX7_step {d : Nat} {Q : Qt} {M : Mm} {L : Ml} (a0 : Nat) (h : wpN 154 d tX7_step Q 60 0 [some (.ref a0), none] [] M L) : Good d 154 [.ref a0] M L Q :=
  good_of (x := [none]) (mF_pn 154 (by decide)) (mF_cn 154 (by decide)) rfl (by rw [show mL 154 = 2 by decide +kernel]; exact (show 1 ≤ 2 by decide)) rfl (by simp) (wpN_runs oX7_step 60 0 _ _ _ _ h)
abbrev nX7_due : Nat := 155
def kX7_due_0 : List Instr := [.aload 0, .getfield 244, .ifCond .eq 8, .return_]
def kX7_due_8 : List Instr := [.iload 1, .ifCond .eq 19, .aload 0, .invokeinterface 154 113, .goto 24]
def kX7_due_19 : List Instr := [.aload 0, .iload 2, .putfield 244, .return_]
def kX7_due_24 : List Instr := [.return_]
def tX7_due : Bt := [(0, kX7_due_0), (8, kX7_due_8), (19, kX7_due_19), (24, kX7_due_24)]
theorem tX7_due_0 : tb tX7_due 0 = kX7_due_0 := rfl
theorem tX7_due_8 : tb tX7_due 8 = kX7_due_8 := rfl
theorem tX7_due_19 : tb tX7_due 19 = kX7_due_19 := rfl
theorem tX7_due_24 : tb tX7_due 24 = kX7_due_24 := rfl
theorem oX7_due : okT 155 tX7_due = true := by decide +kernel
theorem eX7_due {d : Nat} {Q : Qt} {M : Mm} {L : Ml} (a0 : Nat) (a1 : Int32) (a2 : Int32) (h : wpN 155 d tX7_due Q 60 0 [some (.ref a0), some (.int a1), some (.int a2)] [] M L) : Good d 155 [.ref a0, .int a1, .int a2] M L Q :=
  good_of (x := []) (mF_pn 155 (by decide)) (mF_cn 155 (by decide)) rfl (by rw [show mL 155 = 3 by decide +kernel]; exact (show 3 ≤ 3 by decide)) rfl (by simp) (wpN_runs oX7_due 60 0 _ _ _ _ h)
abbrev nX7_told : Nat := 156
def kX7_told_0 : List Instr := [.aload 0, .getfield 243, .istore 4, .aload 0, .getfield 244, .ifCond .ne 26, .aload 0, .getfield 242, .iconst 1, .if_icmp .eq 26, .aload 0, .iconst 1, .putfield 244, .aload 0, .iload 4, .iload 1, .iload 2, .multianewarray 127 3, .iconst 2, .invokeinterface 155 115, .aload 0, .aload 0, .getfield 242, .iconst 2, .if_icmp .ne 59, .aload 0, .getfield 243, .iload 3, .if_icmp .ne 59, .iconst 1, .goto 60]
def kX7_told_26 : List Instr := [.aload 0, .iload 4, .iload 1, .iload 2, .multianewarray 127 3, .iconst 2, .invokeinterface 155 115, .aload 0, .aload 0, .getfield 242, .iconst 2, .if_icmp .ne 59, .aload 0, .getfield 243, .iload 3, .if_icmp .ne 59, .iconst 1, .goto 60]
def kX7_told_59 : List Instr := [.iconst 0, .iconst 1, .invokeinterface 155 115, .iload 4, .ireturn]
def kX7_told_60 : List Instr := [.iconst 1, .invokeinterface 155 115, .iload 4, .ireturn]
def tX7_told : Bt := [(0, kX7_told_0), (26, kX7_told_26), (59, kX7_told_59), (60, kX7_told_60)]
theorem tX7_told_0 : tb tX7_told 0 = kX7_told_0 := rfl
theorem tX7_told_26 : tb tX7_told 26 = kX7_told_26 := rfl
theorem tX7_told_59 : tb tX7_told 59 = kX7_told_59 := rfl
theorem tX7_told_60 : tb tX7_told 60 = kX7_told_60 := rfl
theorem oX7_told : okT 156 tX7_told = true := by decide +kernel
theorem eX7_told {d : Nat} {Q : Qt} {M : Mm} {L : Ml} (a0 : Nat) (a1 : Int32) (a2 : Int32) (a3 : Int32) (h : wpN 156 d tX7_told Q 60 0 [some (.ref a0), some (.int a1), some (.int a2), some (.int a3), none] [] M L) : Good d 156 [.ref a0, .int a1, .int a2, .int a3] M L Q :=
  good_of (x := [none]) (mF_pn 156 (by decide)) (mF_cn 156 (by decide)) rfl (by rw [show mL 156 = 5 by decide +kernel]; exact (show 4 ≤ 5 by decide)) rfl (by simp) (wpN_runs oX7_told 60 0 _ _ _ _ h)
abbrev nX7_isLetter : Nat := 157
def kX7_isLetter_0 : List Instr := [.aload 0, .getfield 244, .ifCond .ne 26, .aload 0, .getfield 242, .ifCond .ne 26, .aload 0, .getfield 243, .iload 1, .if_icmp .ne 26, .iconst 1, .goto 27]
def kX7_isLetter_26 : List Instr := [.iconst 0, .freturn]
def kX7_isLetter_27 : List Instr := [.freturn]
def tX7_isLetter : Bt := [(0, kX7_isLetter_0), (26, kX7_isLetter_26), (27, kX7_isLetter_27)]
theorem tX7_isLetter_0 : tb tX7_isLetter 0 = kX7_isLetter_0 := rfl
theorem tX7_isLetter_26 : tb tX7_isLetter 26 = kX7_isLetter_26 := rfl
theorem tX7_isLetter_27 : tb tX7_isLetter 27 = kX7_isLetter_27 := rfl
theorem oX7_isLetter : okT 157 tX7_isLetter = true := by decide +kernel
theorem eX7_isLetter {d : Nat} {Q : Qt} {M : Mm} {L : Ml} (a0 : Nat) (a1 : Int32) (h : wpN 157 d tX7_isLetter Q 60 0 [some (.ref a0), some (.int a1)] [] M L) : Good d 157 [.ref a0, .int a1] M L Q :=
  good_of (x := []) (mF_pn 157 (by decide)) (mF_cn 157 (by decide)) rfl (by rw [show mL 157 = 2 by decide +kernel]; exact (show 2 ≤ 2 by decide)) rfl (by simp) (wpN_runs oX7_isLetter 60 0 _ _ _ _ h)
abbrev nX7_playerSort : Nat := 158
def kX7_playerSort_0 : List Instr := [.aload 0, .iconst 114, .invokeinterface 157 114, .ifCond .eq 13, .iconst 1, .goto 66]
def kX7_playerSort_13 : List Instr := [.aload 0, .iconst 115, .invokeinterface 157 114, .ifCond .eq 26, .iconst 2, .goto 66]
def kX7_playerSort_26 : List Instr := [.aload 0, .iconst 98, .invokeinterface 157 114, .ifCond .eq 39, .iconst 3, .goto 66]
def kX7_playerSort_39 : List Instr := [.aload 0, .iconst 104, .invokeinterface 157 114, .ifCond .eq 52, .iconst 4, .goto 66]
def kX7_playerSort_52 : List Instr := [.aload 0, .iconst 100, .invokeinterface 157 114, .ifCond .eq 65, .iconst 5, .goto 66]
def kX7_playerSort_65 : List Instr := [.iconst 0, .ireturn]
def kX7_playerSort_66 : List Instr := [.ireturn]
def tX7_playerSort : Bt := [(0, kX7_playerSort_0), (13, kX7_playerSort_13), (26, kX7_playerSort_26), (39, kX7_playerSort_39), (52, kX7_playerSort_52), (65, kX7_playerSort_65), (66, kX7_playerSort_66)]
theorem tX7_playerSort_0 : tb tX7_playerSort 0 = kX7_playerSort_0 := rfl
theorem tX7_playerSort_13 : tb tX7_playerSort 13 = kX7_playerSort_13 := rfl
theorem tX7_playerSort_26 : tb tX7_playerSort 26 = kX7_playerSort_26 := rfl
theorem tX7_playerSort_39 : tb tX7_playerSort 39 = kX7_playerSort_39 := rfl
theorem tX7_playerSort_52 : tb tX7_playerSort 52 = kX7_playerSort_52 := rfl
theorem tX7_playerSort_65 : tb tX7_playerSort 65 = kX7_playerSort_65 := rfl
theorem tX7_playerSort_66 : tb tX7_playerSort 66 = kX7_playerSort_66 := rfl
theorem oX7_playerSort : okT 158 tX7_playerSort = true := by decide +kernel
theorem eX7_playerSort {d : Nat} {Q : Qt} {M : Mm} {L : Ml} (a0 : Nat) (h : wpN 158 d tX7_playerSort Q 60 0 [some (.ref a0)] [] M L) : Good d 158 [.ref a0] M L Q :=
  good_of (x := []) (mF_pn 158 (by decide)) (mF_cn 158 (by decide)) rfl (by rw [show mL 158 = 1 by decide +kernel]; exact (show 1 ≤ 1 by decide)) rfl (by simp) (wpN_runs oX7_playerSort 60 0 _ _ _ _ h)
abbrev nX7_readPlayer : Nat := 159
def kX7_readPlayer_0 : List Instr := [.aload 0, .getstatic 231, .iconst 0, .iaload, .istore 1, .aload 0, .invokeinterface 158 113, .istore 2, .iload 2, .ifCond .ne 21, .aload 0, .iconst 1, .putfield 244, .aload 0, .iload 1, .iconst 8, .if_icmp .ge 32, .iconst 1, .goto 33]
def kX7_readPlayer_21 : List Instr := [.aload 0, .iload 1, .iconst 8, .if_icmp .ge 32, .iconst 1, .goto 33]
def kX7_readPlayer_32 : List Instr := [.iconst 0, .iconst 3, .invokeinterface 155 115, .aload 0, .iconst 0, .iconst 7, .iconst 44, .invokeinterface 156 116, .istore 3, .aload 0, .iconst 1, .iconst 9, .iconst 59, .invokeinterface 156 116, .istore 4, .aload 0, .getfield 244, .ifCond .ne 106, .aload 0, .getstatic 231, .iconst 6, .iload 1, .iadd, .iload 2, .iastore, .aload 0, .getstatic 231, .iconst 14, .iload 1, .iadd, .iload 3, .iastore, .aload 0, .getstatic 231, .iconst 22, .iload 1, .iadd, .iload 4, .iastore, .aload 0, .getstatic 231, .iconst 0, .dup2, .iaload, .iconst 1, .iadd, .iastore, .return_]
def kX7_readPlayer_33 : List Instr := [.iconst 3, .invokeinterface 155 115, .aload 0, .iconst 0, .iconst 7, .iconst 44, .invokeinterface 156 116, .istore 3, .aload 0, .iconst 1, .iconst 9, .iconst 59, .invokeinterface 156 116, .istore 4, .aload 0, .getfield 244, .ifCond .ne 106, .aload 0, .getstatic 231, .iconst 6, .iload 1, .iadd, .iload 2, .iastore, .aload 0, .getstatic 231, .iconst 14, .iload 1, .iadd, .iload 3, .iastore, .aload 0, .getstatic 231, .iconst 22, .iload 1, .iadd, .iload 4, .iastore, .aload 0, .getstatic 231, .iconst 0, .dup2, .iaload, .iconst 1, .iadd, .iastore, .return_]
def kX7_readPlayer_106 : List Instr := [.return_]
def tX7_readPlayer : Bt := [(0, kX7_readPlayer_0), (21, kX7_readPlayer_21), (32, kX7_readPlayer_32), (33, kX7_readPlayer_33), (106, kX7_readPlayer_106)]
theorem tX7_readPlayer_0 : tb tX7_readPlayer 0 = kX7_readPlayer_0 := rfl
theorem tX7_readPlayer_21 : tb tX7_readPlayer 21 = kX7_readPlayer_21 := rfl
theorem tX7_readPlayer_32 : tb tX7_readPlayer 32 = kX7_readPlayer_32 := rfl
theorem tX7_readPlayer_33 : tb tX7_readPlayer 33 = kX7_readPlayer_33 := rfl
theorem tX7_readPlayer_106 : tb tX7_readPlayer 106 = kX7_readPlayer_106 := rfl
theorem oX7_readPlayer : okT 159 tX7_readPlayer = true := by decide +kernel
theorem eX7_readPlayer {d : Nat} {Q : Qt} {M : Mm} {L : Ml} (a0 : Nat) (h : wpN 159 d tX7_readPlayer Q 60 0 [some (.ref a0), none, none, none, none] [] M L) : Good d 159 [.ref a0] M L Q :=
  good_of (x := [none, none, none, none]) (mF_pn 159 (by decide)) (mF_cn 159 (by decide)) rfl (by rw [show mL 159 = 5 by decide +kernel]; exact (show 1 ≤ 5 by decide)) rfl (by simp) (wpN_runs oX7_readPlayer 60 0 _ _ _ _ h)
abbrev nX7_circle : Nat := 160
def kX7_circle_0 : List Instr := [.iconst 0, .istore 1, .ret 2]
def kX7_circle_2 : List Instr := [.ret 2]
def kX7_circle_21 : List Instr := [.aload 0, .iconst 0, .putfield 240, .aload 0, .iconst 0, .putfield 244, .aload 0, .invokeinterface 154 113, .aload 0, .aload 0, .iconst 119, .invokeinterface 157 114, .iconst 1, .invokeinterface 155 115, .aload 0, .getstatic 231, .iconst 1, .aload 0, .iconst 0, .iconst 7, .iconst 44, .invokeinterface 156 116, .iastore, .aload 0, .getstatic 231, .iconst 2, .aload 0, .iconst 1, .iconst 9, .iconst 59, .invokeinterface 156 116, .iastore, .ret 76]
def kX7_circle_76 : List Instr := [.ret 76]
def kX7_circle_100 : List Instr := [.aload 0, .invokeinterface 159 113, .goto 76]
def kX7_circle_107 : List Instr := [.aload 0, .aload 0, .getfield 242, .iconst 3, .if_icmp .ne 120, .iconst 1, .goto 121]
def kX7_circle_120 : List Instr := [.iconst 0, .iconst 1, .invokeinterface 155 115, .aload 0, .iconst 0, .putfield 238, .aload 0, .getfield 244, .ifCond .eq 153, .aload 0, .aload 0, .getfield 244, .putfield 239, .iconst (-1000100), .aload 0, .getfield 241, .isub, .ireturn]
def kX7_circle_121 : List Instr := [.iconst 1, .invokeinterface 155 115, .aload 0, .iconst 0, .putfield 238, .aload 0, .getfield 244, .ifCond .eq 153, .aload 0, .aload 0, .getfield 244, .putfield 239, .iconst (-1000100), .aload 0, .getfield 241, .isub, .ireturn]
def kX7_circle_153 : List Instr := [.aload 0, .getstatic 231, .iconst 0, .iaload, .istore 1, .aload 0, .getstatic 231, .iconst 1, .aload 0, .getstatic 231, .iconst 1, .iaload, .iload 1, .if_icmp .ge 184, .aload 0, .getstatic 231, .iconst 1, .iaload, .goto 187]
def kX7_circle_184 : List Instr := [.iload 1, .iconst 1, .isub, .iastore, .iconst 0, .istore 2, .ret 190]
def kX7_circle_187 : List Instr := [.iastore, .iconst 0, .istore 2, .ret 190]
def kX7_circle_190 : List Instr := [.ret 190]
def kX7_circle_223 : List Instr := [.iload 2, .iconst 1, .iadd, .iload 1, .irem, .goto 232]
def kX7_circle_231 : List Instr := [.iload 3, .iastore, .iinc 2 1, .goto 190]
def kX7_circle_232 : List Instr := [.iastore, .iinc 2 1, .goto 190]
def kX7_circle_239 : List Instr := [.aload 0, .iconst 1, .new 229, .aload 0, .iconst 0, .putfield 233, .iconst 0, .istore 2, .ret 251]
def kX7_circle_251 : List Instr := [.ret 251]
def kX7_circle_275 : List Instr := [.iload 1, .ireturn]
def hX7_circle_2 : List Instr := [.iload 1, .iconst 54, .if_icmp .ge 21, .aload 0, .getstatic 231, .iload 1, .iconst 0, .iastore, .iinc 1 1, .goto 2]
def hX7_circle_76 : List Instr := [.aload 0, .getfield 244, .ifCond .ne 107, .aload 0, .getstatic 231, .iconst 0, .iaload, .iconst 3, .if_icmp .lt 100, .aload 0, .invokeinterface 158 113, .ifCond .le 107, .aload 0, .invokeinterface 159 113, .goto 76]
def hX7_circle_190 : List Instr := [.iload 2, .iload 1, .if_icmp .ge 239, .aload 0, .getstatic 231, .iconst 14, .iload 2, .iadd, .iaload, .istore 3, .aload 0, .getstatic 231, .iconst 14, .iload 2, .iadd, .iload 3, .iload 1, .if_icmp .ge 223, .iload 3, .iload 2, .if_icmp .ne 231, .iload 2, .iconst 1, .iadd, .iload 1, .irem, .goto 232]
def hX7_circle_251 : List Instr := [.iload 2, .iconst 54, .if_icmp .ge 275, .aload 0, .getstatic 230, .iload 2, .aload 0, .getstatic 231, .iload 2, .iaload, .iastore, .iinc 2 1, .goto 251]
def tX7_circle : Bt := [(0, kX7_circle_0), (2, kX7_circle_2), (21, kX7_circle_21), (76, kX7_circle_76), (100, kX7_circle_100), (107, kX7_circle_107), (120, kX7_circle_120), (121, kX7_circle_121), (153, kX7_circle_153), (184, kX7_circle_184), (187, kX7_circle_187), (190, kX7_circle_190), (223, kX7_circle_223), (231, kX7_circle_231), (232, kX7_circle_232), (239, kX7_circle_239), (251, kX7_circle_251), (275, kX7_circle_275)]
theorem tX7_circle_0 : tb tX7_circle 0 = kX7_circle_0 := rfl
theorem tX7_circle_2 : tb tX7_circle 2 = kX7_circle_2 := rfl
theorem tX7_circle_21 : tb tX7_circle 21 = kX7_circle_21 := rfl
theorem tX7_circle_76 : tb tX7_circle 76 = kX7_circle_76 := rfl
theorem tX7_circle_100 : tb tX7_circle 100 = kX7_circle_100 := rfl
theorem tX7_circle_107 : tb tX7_circle 107 = kX7_circle_107 := rfl
theorem tX7_circle_120 : tb tX7_circle 120 = kX7_circle_120 := rfl
theorem tX7_circle_121 : tb tX7_circle 121 = kX7_circle_121 := rfl
theorem tX7_circle_153 : tb tX7_circle 153 = kX7_circle_153 := rfl
theorem tX7_circle_184 : tb tX7_circle 184 = kX7_circle_184 := rfl
theorem tX7_circle_187 : tb tX7_circle 187 = kX7_circle_187 := rfl
theorem tX7_circle_190 : tb tX7_circle 190 = kX7_circle_190 := rfl
theorem tX7_circle_223 : tb tX7_circle 223 = kX7_circle_223 := rfl
theorem tX7_circle_231 : tb tX7_circle 231 = kX7_circle_231 := rfl
theorem tX7_circle_232 : tb tX7_circle 232 = kX7_circle_232 := rfl
theorem tX7_circle_239 : tb tX7_circle 239 = kX7_circle_239 := rfl
theorem tX7_circle_251 : tb tX7_circle 251 = kX7_circle_251 := rfl
theorem tX7_circle_275 : tb tX7_circle 275 = kX7_circle_275 := rfl
theorem oX7_circle : okT 160 tX7_circle = true := by decide +kernel
theorem oX7_circle_2 : okB 160 2 hX7_circle_2 = true := by decide +kernel
theorem oX7_circle_76 : okB 160 76 hX7_circle_76 = true := by decide +kernel
theorem oX7_circle_190 : okB 160 190 hX7_circle_190 = true := by decide +kernel
theorem oX7_circle_251 : okB 160 251 hX7_circle_251 = true := by decide +kernel
theorem eX7_circle {d : Nat} {Q : Qt} {M : Mm} {L : Ml} (a0 : Nat) (h : wpN 160 d tX7_circle Q 60 0 [some (.ref a0), none, none, none] [] M L) : Good d 160 [.ref a0] M L Q :=
  good_of (x := [none, none, none]) (mF_pn 160 (by decide)) (mF_cn 160 (by decide)) rfl (by rw [show mL 160 = 4 by decide +kernel]; exact (show 1 ≤ 4 by decide)) rfl (by simp) (wpN_runs oX7_circle 60 0 _ _ _ _ h)
abbrev nX7_fault : Nat := 161
def kX7_fault_0 : List Instr := [.aload 0, .getfield 239, .ireturn]
def tX7_fault : Bt := [(0, kX7_fault_0)]
theorem tX7_fault_0 : tb tX7_fault 0 = kX7_fault_0 := rfl
theorem oX7_fault : okT 161 tX7_fault = true := by decide +kernel
theorem eX7_fault {d : Nat} {Q : Qt} {M : Mm} {L : Ml} (a0 : Nat) (h : wpN 161 d tX7_fault Q 60 0 [some (.ref a0)] [] M L) : Good d 161 [.ref a0] M L Q :=
  good_of (x := []) (mF_pn 161 (by decide)) (mF_cn 161 (by decide)) rfl (by rw [show mL 161 = 1 by decide +kernel]; exact (show 1 ≤ 1 by decide)) rfl (by simp) (wpN_runs oX7_fault 60 0 _ _ _ _ h)
abbrev nX7_undo : Nat := 162
def kX7_undo_0 : List Instr := [.aload 0, .getfield 233, .ifCond .ne 10, .iconst (-1000002), .ireturn]
def kX7_undo_10 : List Instr := [.aload 0, .dup, .getfield 233, .iconst 1, .isub, .putfield 233, .iconst 0, .istore 1, .ret 22]
def kX7_undo_22 : List Instr := [.ret 22]
def kX7_undo_54 : List Instr := [.aload 0, .getfield 233, .ireturn]
def hX7_undo_22 : List Instr := [.iload 1, .iconst 54, .if_icmp .ge 54, .aload 0, .getstatic 230, .iload 1, .aload 0, .getstatic 232, .iconst 54, .aload 0, .getfield 233, .imul, .iload 1, .iadd, .iaload, .iastore, .iinc 1 1, .goto 22]
def tX7_undo : Bt := [(0, kX7_undo_0), (10, kX7_undo_10), (22, kX7_undo_22), (54, kX7_undo_54)]
theorem tX7_undo_0 : tb tX7_undo 0 = kX7_undo_0 := rfl
theorem tX7_undo_10 : tb tX7_undo 10 = kX7_undo_10 := rfl
theorem tX7_undo_22 : tb tX7_undo 22 = kX7_undo_22 := rfl
theorem tX7_undo_54 : tb tX7_undo 54 = kX7_undo_54 := rfl
theorem oX7_undo : okT 162 tX7_undo = true := by decide +kernel
theorem oX7_undo_22 : okB 162 22 hX7_undo_22 = true := by decide +kernel
theorem eX7_undo {d : Nat} {Q : Qt} {M : Mm} {L : Ml} (a0 : Nat) (h : wpN 162 d tX7_undo Q 60 0 [some (.ref a0), none] [] M L) : Good d 162 [.ref a0] M L Q :=
  good_of (x := [none]) (mF_pn 162 (by decide)) (mF_cn 162 (by decide)) rfl (by rw [show mL 162 = 2 by decide +kernel]; exact (show 1 ≤ 2 by decide)) rfl (by simp) (wpN_runs oX7_undo 60 0 _ _ _ _ h)
abbrev nX7_ticks : Nat := 163
def kX7_ticks_0 : List Instr := [.aload 0, .getfield 229, .ifCond .ne 10, .iconst (-1000002), .ireturn]
def kX7_ticks_10 : List Instr := [.iload 1, .iconst 1, .iconst 24, .multianewarray 127 3, .ifCond .ne 23, .iconst (-1000001), .ireturn]
def kX7_ticks_23 : List Instr := [.aload 0, .getstatic 230, .iconst 4, .iaload, .iload 1, .iadd, .iconst 999, .if_icmp .le 40, .iconst (-1000003), .ireturn]
def kX7_ticks_40 : List Instr := [.iconst 0, .istore 2, .ret 42]
def kX7_ticks_42 : List Instr := [.ret 42]
def kX7_ticks_66 : List Instr := [.aload 0, .getstatic 230, .iconst 2, .multianewarray 149 2, .ireturn]
def hX7_ticks_42 : List Instr := [.iload 2, .iload 1, .if_icmp .ge 66, .aload 0, .invokeinterface 139 113, .aload 0, .aload 0, .getstatic 230, .invokeinterface 146 114, .pop, .iinc 2 1, .goto 42]
def tX7_ticks : Bt := [(0, kX7_ticks_0), (10, kX7_ticks_10), (23, kX7_ticks_23), (40, kX7_ticks_40), (42, kX7_ticks_42), (66, kX7_ticks_66)]
theorem tX7_ticks_0 : tb tX7_ticks 0 = kX7_ticks_0 := rfl
theorem tX7_ticks_10 : tb tX7_ticks 10 = kX7_ticks_10 := rfl
theorem tX7_ticks_23 : tb tX7_ticks 23 = kX7_ticks_23 := rfl
theorem tX7_ticks_40 : tb tX7_ticks 40 = kX7_ticks_40 := rfl
theorem tX7_ticks_42 : tb tX7_ticks 42 = kX7_ticks_42 := rfl
theorem tX7_ticks_66 : tb tX7_ticks 66 = kX7_ticks_66 := rfl
theorem oX7_ticks : okT 163 tX7_ticks = true := by decide +kernel
theorem oX7_ticks_42 : okB 163 42 hX7_ticks_42 = true := by decide +kernel
theorem eX7_ticks {d : Nat} {Q : Qt} {M : Mm} {L : Ml} (a0 : Nat) (a1 : Int32) (h : wpN 163 d tX7_ticks Q 60 0 [some (.ref a0), some (.int a1), none] [] M L) : Good d 163 [.ref a0, .int a1] M L Q :=
  good_of (x := [none]) (mF_pn 163 (by decide)) (mF_cn 163 (by decide)) rfl (by rw [show mL 163 = 3 by decide +kernel]; exact (show 2 ≤ 3 by decide)) rfl (by simp) (wpN_runs oX7_ticks 60 0 _ _ _ _ h)
abbrev nX7_turnHead : Nat := 164
def kX7_turnHead_0 : List Instr := [.aload 0, .iload 1, .invokeinterface 140 114, .ifCond .eq 21, .aload 0, .iload 2, .invokeinterface 140 114, .ifCond .eq 21, .iload 1, .iload 2, .if_icmp .ne 24, .iconst (-1000001), .ireturn]
def kX7_turnHead_21 : List Instr := [.iconst (-1000001), .ireturn]
def kX7_turnHead_24 : List Instr := [.aload 0, .getstatic 230, .iconst 14, .iload 1, .iadd, .iaload, .istore 3, .aload 0, .getstatic 230, .iconst 46, .iload 1, .iadd, .iaload, .iconst 2, .if_icmp .eq 52, .iload 3, .iload 2, .if_icmp .ne 55, .iconst (-1000002), .ireturn]
def kX7_turnHead_52 : List Instr := [.iconst (-1000002), .ireturn]
def kX7_turnHead_55 : List Instr := [.aload 0, .invokeinterface 139 113, .aload 0, .getstatic 230, .iconst 14, .iload 1, .iadd, .iload 2, .iastore, .iload 3, .ifCond .ge 78, .iconst (-1000000), .goto 79]
def kX7_turnHead_78 : List Instr := [.iload 3, .ireturn]
def kX7_turnHead_79 : List Instr := [.ireturn]
def tX7_turnHead : Bt := [(0, kX7_turnHead_0), (21, kX7_turnHead_21), (24, kX7_turnHead_24), (52, kX7_turnHead_52), (55, kX7_turnHead_55), (78, kX7_turnHead_78), (79, kX7_turnHead_79)]
theorem tX7_turnHead_0 : tb tX7_turnHead 0 = kX7_turnHead_0 := rfl
theorem tX7_turnHead_21 : tb tX7_turnHead 21 = kX7_turnHead_21 := rfl
theorem tX7_turnHead_24 : tb tX7_turnHead 24 = kX7_turnHead_24 := rfl
theorem tX7_turnHead_52 : tb tX7_turnHead 52 = kX7_turnHead_52 := rfl
theorem tX7_turnHead_55 : tb tX7_turnHead 55 = kX7_turnHead_55 := rfl
theorem tX7_turnHead_78 : tb tX7_turnHead 78 = kX7_turnHead_78 := rfl
theorem tX7_turnHead_79 : tb tX7_turnHead 79 = kX7_turnHead_79 := rfl
theorem oX7_turnHead : okT 164 tX7_turnHead = true := by decide +kernel
theorem eX7_turnHead {d : Nat} {Q : Qt} {M : Mm} {L : Ml} (a0 : Nat) (a1 : Int32) (a2 : Int32) (h : wpN 164 d tX7_turnHead Q 60 0 [some (.ref a0), some (.int a1), some (.int a2), none] [] M L) : Good d 164 [.ref a0, .int a1, .int a2] M L Q :=
  good_of (x := [none]) (mF_pn 164 (by decide)) (mF_cn 164 (by decide)) rfl (by rw [show mL 164 = 4 by decide +kernel]; exact (show 3 ≤ 4 by decide)) rfl (by simp) (wpN_runs oX7_turnHead 60 0 _ _ _ _ h)
abbrev nX7_role : Nat := 165
def kX7_role_0 : List Instr := [.aload 0, .iload 1, .invokeinterface 140 114, .ifCond .ne 11, .iconst (-1000001), .ireturn]
def kX7_role_11 : List Instr := [.aload 0, .getstatic 230, .iconst 1, .iaload, .istore 2, .iload 2, .iload 1, .if_icmp .ne 26, .iconst (-1000002), .ireturn]
def kX7_role_26 : List Instr := [.aload 0, .invokeinterface 139 113, .aload 0, .getstatic 230, .iload 1, .multianewarray 147 2, .iload 2, .ireturn]
def tX7_role : Bt := [(0, kX7_role_0), (11, kX7_role_11), (26, kX7_role_26)]
theorem tX7_role_0 : tb tX7_role 0 = kX7_role_0 := rfl
theorem tX7_role_11 : tb tX7_role 11 = kX7_role_11 := rfl
theorem tX7_role_26 : tb tX7_role 26 = kX7_role_26 := rfl
theorem oX7_role : okT 165 tX7_role = true := by decide +kernel
theorem eX7_role {d : Nat} {Q : Qt} {M : Mm} {L : Ml} (a0 : Nat) (a1 : Int32) (h : wpN 165 d tX7_role Q 60 0 [some (.ref a0), some (.int a1), none] [] M L) : Good d 165 [.ref a0, .int a1] M L Q :=
  good_of (x := [none]) (mF_pn 165 (by decide)) (mF_cn 165 (by decide)) rfl (by rw [show mL 165 = 3 by decide +kernel]; exact (show 2 ≤ 3 by decide)) rfl (by simp) (wpN_runs oX7_role 60 0 _ _ _ _ h)
abbrev nX7_proof : Nat := 166
def kX7_proof_0 : List Instr := [.aload 0, .getfield 229, .ifCond .ne 10, .iconst (-1000002), .ireturn]
def kX7_proof_10 : List Instr := [.iload 1, .iconst 1, .iconst 9, .multianewarray 127 3, .ifCond .ne 23, .iconst (-1000001), .ireturn]
def kX7_proof_23 : List Instr := [.aload 0, .invokeinterface 139 113, .aload 0, .getstatic 230, .iconst 2, .iaload, .istore 2, .aload 0, .getstatic 230, .iconst 2, .iload 1, .iastore, .iload 2, .ireturn]
def tX7_proof : Bt := [(0, kX7_proof_0), (10, kX7_proof_10), (23, kX7_proof_23)]
theorem tX7_proof_0 : tb tX7_proof 0 = kX7_proof_0 := rfl
theorem tX7_proof_10 : tb tX7_proof 10 = kX7_proof_10 := rfl
theorem tX7_proof_23 : tb tX7_proof 23 = kX7_proof_23 := rfl
theorem oX7_proof : okT 166 tX7_proof = true := by decide +kernel
theorem eX7_proof {d : Nat} {Q : Qt} {M : Mm} {L : Ml} (a0 : Nat) (a1 : Int32) (h : wpN 166 d tX7_proof Q 60 0 [some (.ref a0), some (.int a1), none] [] M L) : Good d 166 [.ref a0, .int a1] M L Q :=
  good_of (x := [none]) (mF_pn 166 (by decide)) (mF_cn 166 (by decide)) rfl (by rw [show mL 166 = 3 by decide +kernel]; exact (show 2 ≤ 3 by decide)) rfl (by simp) (wpN_runs oX7_proof 60 0 _ _ _ _ h)
abbrev nX7_rise : Nat := 167
def kX7_rise_0 : List Instr := [.aload 0, .iload 1, .invokeinterface 140 114, .ifCond .ne 11, .iconst (-1000001), .ireturn]
def kX7_rise_11 : List Instr := [.aload 0, .getstatic 230, .iconst 46, .iload 1, .iadd, .iaload, .iconst 2, .if_icmp .eq 27, .iconst (-1000002), .ireturn]
def kX7_rise_27 : List Instr := [.aload 0, .invokeinterface 139 113, .aload 0, .getstatic 230, .iload 1, .multianewarray 148 2, .aload 0, .getstatic 230, .iconst 2, .multianewarray 149 2, .ireturn]
def tX7_rise : Bt := [(0, kX7_rise_0), (11, kX7_rise_11), (27, kX7_rise_27)]
theorem tX7_rise_0 : tb tX7_rise 0 = kX7_rise_0 := rfl
theorem tX7_rise_11 : tb tX7_rise 11 = kX7_rise_11 := rfl
theorem tX7_rise_27 : tb tX7_rise 27 = kX7_rise_27 := rfl
theorem oX7_rise : okT 167 tX7_rise = true := by decide +kernel
theorem eX7_rise {d : Nat} {Q : Qt} {M : Mm} {L : Ml} (a0 : Nat) (a1 : Int32) (h : wpN 167 d tX7_rise Q 60 0 [some (.ref a0), some (.int a1)] [] M L) : Good d 167 [.ref a0, .int a1] M L Q :=
  good_of (x := []) (mF_pn 167 (by decide)) (mF_cn 167 (by decide)) rfl (by rw [show mL 167 = 2 by decide +kernel]; exact (show 2 ≤ 2 by decide)) rfl (by simp) (wpN_runs oX7_rise 60 0 _ _ _ _ h)
