abbrev nX0_size : Nat := 0
def kX0_size_0 : List Instr := [.aload 0, .getfield 2, .ireturn]
def tX0_size : Bt := [(0, kX0_size_0)]
theorem tX0_size_0 : tb tX0_size 0 = kX0_size_0 := rfl
theorem oX0_size : okT 0 tX0_size = true := by decide +kernel
theorem eX0_size {d : Nat} {Q : Qt} {M : Mm} {L : Ml} (a0 : Nat) (h : wpN 0 d tX0_size Q 60 0 [some (.ref a0)] [] M L) : Good d 0 [.ref a0] M L Q :=
  good_of (x := []) (mF_pn 0 (by decide)) (mF_cn 0 (by decide)) rfl (by rw [show mL 0 = 1 by decide +kernel]; exact (show 1 ≤ 1 by decide)) rfl (by simp) (wpN_runs oX0_size 60 0 _ _ _ _ h)
abbrev nX0_forget : Nat := 1
def kX0_forget_0 : List Instr := [.aload 0, .iconst 0, .putfield 2, .return_]
def tX0_forget : Bt := [(0, kX0_forget_0)]
theorem tX0_forget_0 : tb tX0_forget 0 = kX0_forget_0 := rfl
theorem oX0_forget : okT 1 tX0_forget = true := by decide +kernel
theorem eX0_forget {d : Nat} {Q : Qt} {M : Mm} {L : Ml} (a0 : Nat) (h : wpN 1 d tX0_forget Q 60 0 [some (.ref a0)] [] M L) : Good d 1 [.ref a0] M L Q :=
  good_of (x := []) (mF_pn 1 (by decide)) (mF_cn 1 (by decide)) rfl (by rw [show mL 1 = 1 by decide +kernel]; exact (show 1 ≤ 1 by decide)) rfl (by simp) (wpN_runs oX0_forget 60 0 _ _ _ _ h)
abbrev nX0_keep : Nat := 2
def kX0_keep_0 : List Instr := [.aload 0, .getfield 2, .iconst 24, .if_icmp .ne 32, .aload 0, .aload 0, .getfield 1, .iconst 1, .iadd, .iconst 24, .irem, .putfield 1, .aload 0, .dup, .getfield 2, .iconst 1, .isub, .putfield 2, .aload 0, .getstatic 0, .aload 0, .getfield 1, .aload 0, .getfield 2, .iadd, .iconst 24, .irem, .aaload, .aload 1, .invokeinterface 14 34, .aload 0, .dup, .getfield 2, .iconst 1, .iadd, .putfield 2, .return_]
def kX0_keep_32 : List Instr := [.aload 0, .getstatic 0, .aload 0, .getfield 1, .aload 0, .getfield 2, .iadd, .iconst 24, .irem, .aaload, .aload 1, .invokeinterface 14 34, .aload 0, .dup, .getfield 2, .iconst 1, .iadd, .putfield 2, .return_]
def tX0_keep : Bt := [(0, kX0_keep_0), (32, kX0_keep_32)]
theorem tX0_keep_0 : tb tX0_keep 0 = kX0_keep_0 := rfl
theorem tX0_keep_32 : tb tX0_keep 32 = kX0_keep_32 := rfl
theorem oX0_keep : okT 2 tX0_keep = true := by decide +kernel
theorem eX0_keep {d : Nat} {Q : Qt} {M : Mm} {L : Ml} (a0 : Nat) (a1 : Nat) (h : wpN 2 d tX0_keep Q 60 0 [some (.ref a0), some (.ref a1)] [] M L) : Good d 2 [.ref a0, .ref a1] M L Q :=
  good_of (x := []) (mF_pn 2 (by decide)) (mF_cn 2 (by decide)) rfl (by rw [show mL 2 = 2 by decide +kernel]; exact (show 2 ≤ 2 by decide)) rfl (by simp) (wpN_runs oX0_keep 60 0 _ _ _ _ h)
abbrev nX0_takeBack : Nat := 3
def kX0_takeBack_0 : List Instr := [.aload 0, .getfield 2, .ifCond .le 38, .aload 0, .dup, .getfield 2, .iconst 1, .isub, .putfield 2, .aload 1, .aload 0, .getstatic 0, .aload 0, .getfield 1, .aload 0, .getfield 2, .iadd, .iconst 24, .irem, .aaload, .invokeinterface 14 34, .return_]
def kX0_takeBack_38 : List Instr := [.return_]
def tX0_takeBack : Bt := [(0, kX0_takeBack_0), (38, kX0_takeBack_38)]
theorem tX0_takeBack_0 : tb tX0_takeBack 0 = kX0_takeBack_0 := rfl
theorem tX0_takeBack_38 : tb tX0_takeBack 38 = kX0_takeBack_38 := rfl
theorem oX0_takeBack : okT 3 tX0_takeBack = true := by decide +kernel
theorem eX0_takeBack {d : Nat} {Q : Qt} {M : Mm} {L : Ml} (a0 : Nat) (a1 : Nat) (h : wpN 3 d tX0_takeBack Q 60 0 [some (.ref a0), some (.ref a1)] [] M L) : Good d 3 [.ref a0, .ref a1] M L Q :=
  good_of (x := []) (mF_pn 3 (by decide)) (mF_cn 3 (by decide)) rfl (by rw [show mL 3 = 2 by decide +kernel]; exact (show 2 ≤ 2 by decide)) rfl (by simp) (wpN_runs oX0_takeBack 60 0 _ _ _ _ h)
abbrev nX1_begin : Nat := 4
def kX1_begin_0 : List Instr := [.aload 0, .iconst 0, .putfield 33, .aload 0, .iload 1, .putfield 34, .aload 0, .iload 2, .putfield 35, .aload 0, .iload 3, .putfield 36, .aload 0, .iload 4, .putfield 37, .return_]
def tX1_begin : Bt := [(0, kX1_begin_0)]
theorem tX1_begin_0 : tb tX1_begin 0 = kX1_begin_0 := rfl
theorem oX1_begin : okT 4 tX1_begin = true := by decide +kernel
theorem eX1_begin {d : Nat} {Q : Qt} {M : Mm} {L : Ml} (a0 : Nat) (a1 : Int32) (a2 : Int32) (a3 : Int32) (a4 : Int32) (h : wpN 4 d tX1_begin Q 60 0 [some (.ref a0), some (.int a1), some (.int a2), some (.int a3), some (.int a4)] [] M L) : Good d 4 [.ref a0, .int a1, .int a2, .int a3, .int a4] M L Q :=
  good_of (x := []) (mF_pn 4 (by decide)) (mF_cn 4 (by decide)) rfl (by rw [show mL 4 = 5 by decide +kernel]; exact (show 5 ≤ 5 by decide)) rfl (by simp) (wpN_runs oX1_begin 60 0 _ _ _ _ h)
abbrev nX1_left : Nat := 5
def kX1_left_0 : List Instr := [.iload 1, .ifCond .lt 21, .iload 1, .aload 0, .getfield 33, .if_icmp .ge 21, .aload 0, .getstatic 32, .iload 1, .iaload, .goto 23]
def kX1_left_21 : List Instr := [.iconst (-1000000), .ireturn]
def kX1_left_23 : List Instr := [.ireturn]
def tX1_left : Bt := [(0, kX1_left_0), (21, kX1_left_21), (23, kX1_left_23)]
theorem tX1_left_0 : tb tX1_left 0 = kX1_left_0 := rfl
theorem tX1_left_21 : tb tX1_left 21 = kX1_left_21 := rfl
theorem tX1_left_23 : tb tX1_left 23 = kX1_left_23 := rfl
theorem oX1_left : okT 5 tX1_left = true := by decide +kernel
theorem eX1_left {d : Nat} {Q : Qt} {M : Mm} {L : Ml} (a0 : Nat) (a1 : Int32) (h : wpN 5 d tX1_left Q 60 0 [some (.ref a0), some (.int a1)] [] M L) : Good d 5 [.ref a0, .int a1] M L Q :=
  good_of (x := []) (mF_pn 5 (by decide)) (mF_cn 5 (by decide)) rfl (by rw [show mL 5 = 2 by decide +kernel]; exact (show 2 ≤ 2 by decide)) rfl (by simp) (wpN_runs oX1_left 60 0 _ _ _ _ h)
abbrev nX1_leave : Nat := 6
def kX1_leave_0 : List Instr := [.aload 0, .getfield 33, .iconst 16, .if_icmp .ge 29, .aload 0, .getstatic 32, .aload 0, .getfield 33, .iload 1, .iastore, .aload 0, .dup, .getfield 33, .iconst 1, .iadd, .putfield 33, .return_]
def kX1_leave_29 : List Instr := [.return_]
def tX1_leave : Bt := [(0, kX1_leave_0), (29, kX1_leave_29)]
theorem tX1_leave_0 : tb tX1_leave 0 = kX1_leave_0 := rfl
theorem tX1_leave_29 : tb tX1_leave 29 = kX1_leave_29 := rfl
theorem oX1_leave : okT 6 tX1_leave = true := by decide +kernel
theorem eX1_leave {d : Nat} {Q : Qt} {M : Mm} {L : Ml} (a0 : Nat) (a1 : Int32) (h : wpN 6 d tX1_leave Q 60 0 [some (.ref a0), some (.int a1)] [] M L) : Good d 6 [.ref a0, .int a1] M L Q :=
  good_of (x := []) (mF_pn 6 (by decide)) (mF_cn 6 (by decide)) rfl (by rw [show mL 6 = 2 by decide +kernel]; exact (show 2 ≤ 2 by decide)) rfl (by simp) (wpN_runs oX1_leave 60 0 _ _ _ _ h)
abbrev nX1_sizeGiven : Nat := 7
def kX1_sizeGiven_0 : List Instr := [.aload 0, .getfield 35, .iconst 4, .multianewarray 126 2, .ifCond .eq 18, .aload 0, .invokeinterface 10 17, .goto 22]
def kX1_sizeGiven_18 : List Instr := [.aload 0, .invokeinterface 9 17, .ireturn]
def kX1_sizeGiven_22 : List Instr := [.ireturn]
def tX1_sizeGiven : Bt := [(0, kX1_sizeGiven_0), (18, kX1_sizeGiven_18), (22, kX1_sizeGiven_22)]
theorem tX1_sizeGiven_0 : tb tX1_sizeGiven 0 = kX1_sizeGiven_0 := rfl
theorem tX1_sizeGiven_18 : tb tX1_sizeGiven 18 = kX1_sizeGiven_18 := rfl
theorem tX1_sizeGiven_22 : tb tX1_sizeGiven 22 = kX1_sizeGiven_22 := rfl
theorem oX1_sizeGiven : okT 7 tX1_sizeGiven = true := by decide +kernel
theorem eX1_sizeGiven {d : Nat} {Q : Qt} {M : Mm} {L : Ml} (a0 : Nat) (h : wpN 7 d tX1_sizeGiven Q 60 0 [some (.ref a0)] [] M L) : Good d 7 [.ref a0] M L Q :=
  good_of (x := []) (mF_pn 7 (by decide)) (mF_cn 7 (by decide)) rfl (by rw [show mL 7 = 1 by decide +kernel]; exact (show 1 ≤ 1 by decide)) rfl (by simp) (wpN_runs oX1_sizeGiven 60 0 _ _ _ _ h)
abbrev nX1_markGiven : Nat := 8
def kX1_markGiven_0 : List Instr := [.aload 0, .getfield 35, .iconst 4, .multianewarray 126 2, .ifCond .eq 18, .aload 0, .invokeinterface 12 17, .goto 22]
def kX1_markGiven_18 : List Instr := [.aload 0, .invokeinterface 11 17, .ireturn]
def kX1_markGiven_22 : List Instr := [.ireturn]
def tX1_markGiven : Bt := [(0, kX1_markGiven_0), (18, kX1_markGiven_18), (22, kX1_markGiven_22)]
theorem tX1_markGiven_0 : tb tX1_markGiven 0 = kX1_markGiven_0 := rfl
theorem tX1_markGiven_18 : tb tX1_markGiven 18 = kX1_markGiven_18 := rfl
theorem tX1_markGiven_22 : tb tX1_markGiven 22 = kX1_markGiven_22 := rfl
theorem oX1_markGiven : okT 8 tX1_markGiven = true := by decide +kernel
theorem eX1_markGiven {d : Nat} {Q : Qt} {M : Mm} {L : Ml} (a0 : Nat) (h : wpN 8 d tX1_markGiven Q 60 0 [some (.ref a0)] [] M L) : Good d 8 [.ref a0] M L Q :=
  good_of (x := []) (mF_pn 8 (by decide)) (mF_cn 8 (by decide)) rfl (by rw [show mL 8 = 1 by decide +kernel]; exact (show 1 ≤ 1 by decide)) rfl (by simp) (wpN_runs oX1_markGiven 60 0 _ _ _ _ h)
abbrev nX1_sizeOfRover : Nat := 9
def kX1_sizeOfRover_0 : List Instr := [.aload 0, .getfield 35, .iconst 2, .if_icmp .ne 14, .aload 0, .iconst 12, .invokeinterface 6 18, .aload 0, .iconst 11, .invokeinterface 6 18, .aload 0, .iconst 10, .invokeinterface 6 18, .aload 0, .getfield 36, .aload 0, .invokeinterface 11 17, .iadd, .istore 1, .aload 0, .getfield 35, .iconst 2, .if_icmp .ne 49, .iload 1, .ineg, .goto 50]
def kX1_sizeOfRover_14 : List Instr := [.aload 0, .iconst 11, .invokeinterface 6 18, .aload 0, .iconst 10, .invokeinterface 6 18, .aload 0, .getfield 36, .aload 0, .invokeinterface 11 17, .iadd, .istore 1, .aload 0, .getfield 35, .iconst 2, .if_icmp .ne 49, .iload 1, .ineg, .goto 50]
def kX1_sizeOfRover_49 : List Instr := [.iload 1, .ireturn]
def kX1_sizeOfRover_50 : List Instr := [.ireturn]
def tX1_sizeOfRover : Bt := [(0, kX1_sizeOfRover_0), (14, kX1_sizeOfRover_14), (49, kX1_sizeOfRover_49), (50, kX1_sizeOfRover_50)]
theorem tX1_sizeOfRover_0 : tb tX1_sizeOfRover 0 = kX1_sizeOfRover_0 := rfl
theorem tX1_sizeOfRover_14 : tb tX1_sizeOfRover 14 = kX1_sizeOfRover_14 := rfl
theorem tX1_sizeOfRover_49 : tb tX1_sizeOfRover 49 = kX1_sizeOfRover_49 := rfl
theorem tX1_sizeOfRover_50 : tb tX1_sizeOfRover 50 = kX1_sizeOfRover_50 := rfl
theorem oX1_sizeOfRover : okT 9 tX1_sizeOfRover = true := by decide +kernel
theorem eX1_sizeOfRover {d : Nat} {Q : Qt} {M : Mm} {L : Ml} (a0 : Nat) (h : wpN 9 d tX1_sizeOfRover Q 60 0 [some (.ref a0), none] [] M L) : Good d 9 [.ref a0] M L Q :=
  good_of (x := [none]) (mF_pn 9 (by decide)) (mF_cn 9 (by decide)) rfl (by rw [show mL 9 = 2 by decide +kernel]; exact (show 1 ≤ 2 by decide)) rfl (by simp) (wpN_runs oX1_sizeOfRover 60 0 _ _ _ _ h)
abbrev nX1_sizeOfShy : Nat := 10
def kX1_sizeOfShy_0 : List Instr := [.aload 0, .getfield 35, .iconst 5, .if_icmp .ne 14, .aload 0, .iconst 14, .invokeinterface 6 18, .aload 0, .iconst 13, .invokeinterface 6 18, .aload 0, .iconst 10, .invokeinterface 6 18, .aload 0, .getfield 36, .iconst 100, .isub, .istore 1, .aload 0, .getfield 35, .iconst 5, .if_icmp .ne 48, .iload 1, .iconst 2, .imul, .goto 49]
def kX1_sizeOfShy_14 : List Instr := [.aload 0, .iconst 13, .invokeinterface 6 18, .aload 0, .iconst 10, .invokeinterface 6 18, .aload 0, .getfield 36, .iconst 100, .isub, .istore 1, .aload 0, .getfield 35, .iconst 5, .if_icmp .ne 48, .iload 1, .iconst 2, .imul, .goto 49]
def kX1_sizeOfShy_48 : List Instr := [.iload 1, .ireturn]
def kX1_sizeOfShy_49 : List Instr := [.ireturn]
def tX1_sizeOfShy : Bt := [(0, kX1_sizeOfShy_0), (14, kX1_sizeOfShy_14), (48, kX1_sizeOfShy_48), (49, kX1_sizeOfShy_49)]
theorem tX1_sizeOfShy_0 : tb tX1_sizeOfShy 0 = kX1_sizeOfShy_0 := rfl
theorem tX1_sizeOfShy_14 : tb tX1_sizeOfShy 14 = kX1_sizeOfShy_14 := rfl
theorem tX1_sizeOfShy_48 : tb tX1_sizeOfShy 48 = kX1_sizeOfShy_48 := rfl
theorem tX1_sizeOfShy_49 : tb tX1_sizeOfShy 49 = kX1_sizeOfShy_49 := rfl
theorem oX1_sizeOfShy : okT 10 tX1_sizeOfShy = true := by decide +kernel
theorem eX1_sizeOfShy {d : Nat} {Q : Qt} {M : Mm} {L : Ml} (a0 : Nat) (h : wpN 10 d tX1_sizeOfShy Q 60 0 [some (.ref a0), none] [] M L) : Good d 10 [.ref a0] M L Q :=
  good_of (x := [none]) (mF_pn 10 (by decide)) (mF_cn 10 (by decide)) rfl (by rw [show mL 10 = 2 by decide +kernel]; exact (show 1 ≤ 2 by decide)) rfl (by simp) (wpN_runs oX1_sizeOfShy 60 0 _ _ _ _ h)
abbrev nX1_markOfRover : Nat := 11
def kX1_markOfRover_0 : List Instr := [.aload 0, .getfield 35, .iconst 2, .if_icmp .ne 17, .aload 0, .iconst 24, .invokeinterface 6 18, .goto 31]
def kX1_markOfRover_17 : List Instr := [.aload 0, .getfield 35, .iconst 3, .if_icmp .ne 31, .aload 0, .iconst 22, .invokeinterface 6 18, .aload 0, .iconst 21, .invokeinterface 6 18, .aload 0, .iconst 20, .invokeinterface 6 18, .aload 0, .getfield 34, .aload 0, .getfield 37, .iadd, .istore 1, .aload 0, .getfield 35, .iconst 2, .if_icmp .ne 65, .iload 1, .iconst 2, .imul, .ireturn]
def kX1_markOfRover_31 : List Instr := [.aload 0, .iconst 21, .invokeinterface 6 18, .aload 0, .iconst 20, .invokeinterface 6 18, .aload 0, .getfield 34, .aload 0, .getfield 37, .iadd, .istore 1, .aload 0, .getfield 35, .iconst 2, .if_icmp .ne 65, .iload 1, .iconst 2, .imul, .ireturn]
def kX1_markOfRover_65 : List Instr := [.aload 0, .getfield 35, .iconst 3, .if_icmp .ne 81, .iload 1, .iconst 1000, .isub, .goto 82]
def kX1_markOfRover_81 : List Instr := [.iload 1, .ireturn]
def kX1_markOfRover_82 : List Instr := [.ireturn]
def tX1_markOfRover : Bt := [(0, kX1_markOfRover_0), (17, kX1_markOfRover_17), (31, kX1_markOfRover_31), (65, kX1_markOfRover_65), (81, kX1_markOfRover_81), (82, kX1_markOfRover_82)]
theorem tX1_markOfRover_0 : tb tX1_markOfRover 0 = kX1_markOfRover_0 := rfl
theorem tX1_markOfRover_17 : tb tX1_markOfRover 17 = kX1_markOfRover_17 := rfl
theorem tX1_markOfRover_31 : tb tX1_markOfRover 31 = kX1_markOfRover_31 := rfl
theorem tX1_markOfRover_65 : tb tX1_markOfRover 65 = kX1_markOfRover_65 := rfl
theorem tX1_markOfRover_81 : tb tX1_markOfRover 81 = kX1_markOfRover_81 := rfl
theorem tX1_markOfRover_82 : tb tX1_markOfRover 82 = kX1_markOfRover_82 := rfl
theorem oX1_markOfRover : okT 11 tX1_markOfRover = true := by decide +kernel
theorem eX1_markOfRover {d : Nat} {Q : Qt} {M : Mm} {L : Ml} (a0 : Nat) (h : wpN 11 d tX1_markOfRover Q 60 0 [some (.ref a0), none] [] M L) : Good d 11 [.ref a0] M L Q :=
  good_of (x := [none]) (mF_pn 11 (by decide)) (mF_cn 11 (by decide)) rfl (by rw [show mL 11 = 2 by decide +kernel]; exact (show 1 ≤ 2 by decide)) rfl (by simp) (wpN_runs oX1_markOfRover 60 0 _ _ _ _ h)
abbrev nX1_markOfShy : Nat := 12
def kX1_markOfShy_0 : List Instr := [.aload 0, .iconst 23, .invokeinterface 6 18, .aload 0, .iconst 20, .invokeinterface 6 18, .aload 0, .getfield 34, .aload 0, .invokeinterface 10 17, .isub, .ireturn]
def tX1_markOfShy : Bt := [(0, kX1_markOfShy_0)]
theorem tX1_markOfShy_0 : tb tX1_markOfShy 0 = kX1_markOfShy_0 := rfl
theorem oX1_markOfShy : okT 12 tX1_markOfShy = true := by decide +kernel
theorem eX1_markOfShy {d : Nat} {Q : Qt} {M : Mm} {L : Ml} (a0 : Nat) (h : wpN 12 d tX1_markOfShy Q 60 0 [some (.ref a0)] [] M L) : Good d 12 [.ref a0] M L Q :=
  good_of (x := []) (mF_pn 12 (by decide)) (mF_cn 12 (by decide)) rfl (by rw [show mL 12 = 1 by decide +kernel]; exact (show 1 ≤ 1 by decide)) rfl (by simp) (wpN_runs oX1_markOfShy 60 0 _ _ _ _ h)
abbrev nX2_clear : Nat := 13
def kX2_clear_0 : List Instr := [.aload 0, .iconst 0, .putfield 64, .aload 0, .iconst 0, .putfield 65, .aload 0, .iconst 1, .putfield 66, .aload 0, .iconst 0, .putfield 67, .aload 0, .iconst 0, .new 68, .aload 0, .iconst 0, .putfield 69, .iconst 0, .istore 1, .ret 32]
def kX2_clear_32 : List Instr := [.ret 32]
def kX2_clear_87 : List Instr := [.return_]
def hX2_clear_32 : List Instr := [.iload 1, .iconst 8, .if_icmp .ge 87, .aload 0, .getstatic 70, .iload 1, .iconst 0, .iastore, .aload 0, .getstatic 71, .iload 1, .iconst (-1000000), .iastore, .aload 0, .getstatic 72, .iload 1, .iconst 1, .iastore, .aload 0, .getstatic 73, .iload 1, .iconst 0, .iastore, .aload 0, .getstatic 74, .iload 1, .iconst 0, .iastore, .aload 0, .getstatic 75, .iload 1, .iconst 0, .iastore, .iinc 1 1, .goto 32]
def tX2_clear : Bt := [(0, kX2_clear_0), (32, kX2_clear_32), (87, kX2_clear_87)]
theorem tX2_clear_0 : tb tX2_clear 0 = kX2_clear_0 := rfl
theorem tX2_clear_32 : tb tX2_clear 32 = kX2_clear_32 := rfl
theorem tX2_clear_87 : tb tX2_clear 87 = kX2_clear_87 := rfl
theorem oX2_clear : okT 13 tX2_clear = true := by decide +kernel
theorem oX2_clear_32 : okB 13 32 hX2_clear_32 = true := by decide +kernel
theorem eX2_clear {d : Nat} {Q : Qt} {M : Mm} {L : Ml} (a0 : Nat) (h : wpN 13 d tX2_clear Q 60 0 [some (.ref a0), none] [] M L) : Good d 13 [.ref a0] M L Q :=
  good_of (x := [none]) (mF_pn 13 (by decide)) (mF_cn 13 (by decide)) rfl (by rw [show mL 13 = 2 by decide +kernel]; exact (show 1 ≤ 2 by decide)) rfl (by simp) (wpN_runs oX2_clear 60 0 _ _ _ _ h)
abbrev nX2_takeFrom : Nat := 14
def kX2_takeFrom_0 : List Instr := [.aload 0, .aload 1, .getfield 64, .putfield 64, .aload 0, .aload 1, .getfield 65, .putfield 65, .aload 0, .aload 1, .getfield 66, .putfield 66, .aload 0, .aload 1, .getfield 67, .putfield 67, .aload 0, .aload 1, .getfield 68, .new 68, .aload 0, .aload 1, .getfield 69, .putfield 69, .iconst 0, .istore 2, .ret 50]
def kX2_takeFrom_50 : List Instr := [.ret 50]
def kX2_takeFrom_134 : List Instr := [.return_]
def hX2_takeFrom_50 : List Instr := [.iload 2, .iconst 8, .if_icmp .ge 134, .aload 0, .getstatic 70, .iload 2, .aload 1, .getstatic 70, .iload 2, .iaload, .iastore, .aload 0, .getstatic 71, .iload 2, .aload 1, .getstatic 71, .iload 2, .iaload, .iastore, .aload 0, .getstatic 72, .iload 2, .aload 1, .getstatic 72, .iload 2, .iaload, .iastore, .aload 0, .getstatic 73, .iload 2, .aload 1, .getstatic 73, .iload 2, .iaload, .iastore, .aload 0, .getstatic 74, .iload 2, .aload 1, .getstatic 74, .iload 2, .iaload, .iastore, .aload 0, .getstatic 75, .iload 2, .aload 1, .getstatic 75, .iload 2, .iaload, .iastore, .iinc 2 1, .goto 50]
def tX2_takeFrom : Bt := [(0, kX2_takeFrom_0), (50, kX2_takeFrom_50), (134, kX2_takeFrom_134)]
theorem tX2_takeFrom_0 : tb tX2_takeFrom 0 = kX2_takeFrom_0 := rfl
theorem tX2_takeFrom_50 : tb tX2_takeFrom 50 = kX2_takeFrom_50 := rfl
theorem tX2_takeFrom_134 : tb tX2_takeFrom 134 = kX2_takeFrom_134 := rfl
theorem oX2_takeFrom : okT 14 tX2_takeFrom = true := by decide +kernel
theorem oX2_takeFrom_50 : okB 14 50 hX2_takeFrom_50 = true := by decide +kernel
theorem eX2_takeFrom {d : Nat} {Q : Qt} {M : Mm} {L : Ml} (a0 : Nat) (a1 : Nat) (h : wpN 14 d tX2_takeFrom Q 60 0 [some (.ref a0), some (.ref a1), none] [] M L) : Good d 14 [.ref a0, .ref a1] M L Q :=
  good_of (x := [none]) (mF_pn 14 (by decide)) (mF_cn 14 (by decide)) rfl (by rw [show mL 14 = 3 by decide +kernel]; exact (show 2 ≤ 3 by decide)) rfl (by simp) (wpN_runs oX2_takeFrom 60 0 _ _ _ _ h)
abbrev nX2_settle : Nat := 15
def kX2_settle_0 : List Instr := [.aload 0, .getfield 65, .aload 0, .getfield 64, .if_icmp .lt 21, .aload 0, .aload 0, .getfield 64, .iconst 1, .isub, .putfield 65, .iconst 0, .istore 1, .ret 23]
def kX2_settle_21 : List Instr := [.iconst 0, .istore 1, .ret 23]
def kX2_settle_23 : List Instr := [.ret 23]
def kX2_settle_54 : List Instr := [.aload 0, .getstatic 71, .iload 1, .aload 0, .iload 1, .invokeinterface 19 34, .iastore, .iinc 1 1, .goto 23]
def kX2_settle_65 : List Instr := [.iinc 1 1, .goto 23]
def kX2_settle_71 : List Instr := [.return_]
def hX2_settle_23 : List Instr := [.iload 1, .aload 0, .getfield 64, .if_icmp .ge 71, .aload 0, .getstatic 71, .iload 1, .iaload, .aload 0, .getfield 64, .if_icmp .ge 54, .aload 0, .getstatic 71, .iload 1, .iaload, .iload 1, .if_icmp .ne 65, .aload 0, .getstatic 71, .iload 1, .aload 0, .iload 1, .invokeinterface 19 34, .iastore, .iinc 1 1, .goto 23]
def tX2_settle : Bt := [(0, kX2_settle_0), (21, kX2_settle_21), (23, kX2_settle_23), (54, kX2_settle_54), (65, kX2_settle_65), (71, kX2_settle_71)]
theorem tX2_settle_0 : tb tX2_settle 0 = kX2_settle_0 := rfl
theorem tX2_settle_21 : tb tX2_settle 21 = kX2_settle_21 := rfl
theorem tX2_settle_23 : tb tX2_settle 23 = kX2_settle_23 := rfl
theorem tX2_settle_54 : tb tX2_settle 54 = kX2_settle_54 := rfl
theorem tX2_settle_65 : tb tX2_settle 65 = kX2_settle_65 := rfl
theorem tX2_settle_71 : tb tX2_settle 71 = kX2_settle_71 := rfl
theorem oX2_settle : okT 15 tX2_settle = true := by decide +kernel
theorem oX2_settle_23 : okB 15 23 hX2_settle_23 = true := by decide +kernel
theorem eX2_settle {d : Nat} {Q : Qt} {M : Mm} {L : Ml} (a0 : Nat) (h : wpN 15 d tX2_settle Q 60 0 [some (.ref a0), none] [] M L) : Good d 15 [.ref a0] M L Q :=
  good_of (x := [none]) (mF_pn 15 (by decide)) (mF_cn 15 (by decide)) rfl (by rw [show mL 15 = 2 by decide +kernel]; exact (show 1 ≤ 2 by decide)) rfl (by simp) (wpN_runs oX2_settle 60 0 _ _ _ _ h)
abbrev nX2_isNone : Nat := 16
def kX2_isNone_0 : List Instr := [.aload 0, .getfield 64, .ifCond .ne 11, .iconst 1, .goto 12]
def kX2_isNone_11 : List Instr := [.iconst 0, .freturn]
def kX2_isNone_12 : List Instr := [.freturn]
def tX2_isNone : Bt := [(0, kX2_isNone_0), (11, kX2_isNone_11), (12, kX2_isNone_12)]
theorem tX2_isNone_0 : tb tX2_isNone 0 = kX2_isNone_0 := rfl
theorem tX2_isNone_11 : tb tX2_isNone 11 = kX2_isNone_11 := rfl
theorem tX2_isNone_12 : tb tX2_isNone 12 = kX2_isNone_12 := rfl
theorem oX2_isNone : okT 16 tX2_isNone = true := by decide +kernel
theorem eX2_isNone {d : Nat} {Q : Qt} {M : Mm} {L : Ml} (a0 : Nat) (h : wpN 16 d tX2_isNone Q 60 0 [some (.ref a0)] [] M L) : Good d 16 [.ref a0] M L Q :=
  good_of (x := []) (mF_pn 16 (by decide)) (mF_cn 16 (by decide)) rfl (by rw [show mL 16 = 1 by decide +kernel]; exact (show 1 ≤ 1 by decide)) rfl (by simp) (wpN_runs oX2_isNone 60 0 _ _ _ _ h)
abbrev nX2_has : Nat := 17
def kX2_has_0 : List Instr := [.iload 1, .ifCond .lt 16, .iload 1, .aload 0, .getfield 64, .if_icmp .ge 16, .iconst 1, .goto 17]
def kX2_has_16 : List Instr := [.iconst 0, .freturn]
def kX2_has_17 : List Instr := [.freturn]
def tX2_has : Bt := [(0, kX2_has_0), (16, kX2_has_16), (17, kX2_has_17)]
theorem tX2_has_0 : tb tX2_has 0 = kX2_has_0 := rfl
theorem tX2_has_16 : tb tX2_has 16 = kX2_has_16 := rfl
theorem tX2_has_17 : tb tX2_has 17 = kX2_has_17 := rfl
theorem oX2_has : okT 17 tX2_has = true := by decide +kernel
theorem eX2_has {d : Nat} {Q : Qt} {M : Mm} {L : Ml} (a0 : Nat) (a1 : Int32) (h : wpN 17 d tX2_has Q 60 0 [some (.ref a0), some (.int a1)] [] M L) : Good d 17 [.ref a0, .int a1] M L Q :=
  good_of (x := []) (mF_pn 17 (by decide)) (mF_cn 17 (by decide)) rfl (by rw [show mL 17 = 2 by decide +kernel]; exact (show 2 ≤ 2 by decide)) rfl (by simp) (wpN_runs oX2_has 60 0 _ _ _ _ h)
abbrev nX2_isDead : Nat := 18
def kX2_isDead_0 : List Instr := [.aload 0, .iload 1, .invokeinterface 17 34, .ifCond .eq 22, .aload 0, .getstatic 73, .iload 1, .iaload, .iconst 2, .if_icmp .ne 22, .iconst 1, .goto 23]
def kX2_isDead_22 : List Instr := [.iconst 0, .freturn]
def kX2_isDead_23 : List Instr := [.freturn]
def tX2_isDead : Bt := [(0, kX2_isDead_0), (22, kX2_isDead_22), (23, kX2_isDead_23)]
theorem tX2_isDead_0 : tb tX2_isDead 0 = kX2_isDead_0 := rfl
theorem tX2_isDead_22 : tb tX2_isDead 22 = kX2_isDead_22 := rfl
theorem tX2_isDead_23 : tb tX2_isDead 23 = kX2_isDead_23 := rfl
theorem oX2_isDead : okT 18 tX2_isDead = true := by decide +kernel
theorem eX2_isDead {d : Nat} {Q : Qt} {M : Mm} {L : Ml} (a0 : Nat) (a1 : Int32) (h : wpN 18 d tX2_isDead Q 60 0 [some (.ref a0), some (.int a1)] [] M L) : Good d 18 [.ref a0, .int a1] M L Q :=
  good_of (x := []) (mF_pn 18 (by decide)) (mF_cn 18 (by decide)) rfl (by rw [show mL 18 = 2 by decide +kernel]; exact (show 2 ≤ 2 by decide)) rfl (by simp) (wpN_runs oX2_isDead 60 0 _ _ _ _ h)
abbrev nX2_above : Nat := 19
def kX2_above_0 : List Instr := [.iload 1, .iconst 1, .iadd, .aload 0, .getfield 64, .if_icmp .ge 16, .iload 1, .iconst 1, .iadd, .goto 17]
def kX2_above_16 : List Instr := [.iconst 0, .ireturn]
def kX2_above_17 : List Instr := [.ireturn]
def tX2_above : Bt := [(0, kX2_above_0), (16, kX2_above_16), (17, kX2_above_17)]
theorem tX2_above_0 : tb tX2_above 0 = kX2_above_0 := rfl
theorem tX2_above_16 : tb tX2_above 16 = kX2_above_16 := rfl
theorem tX2_above_17 : tb tX2_above 17 = kX2_above_17 := rfl
theorem oX2_above : okT 19 tX2_above = true := by decide +kernel
theorem eX2_above {d : Nat} {Q : Qt} {M : Mm} {L : Ml} (a0 : Nat) (a1 : Int32) (h : wpN 19 d tX2_above Q 60 0 [some (.ref a0), some (.int a1)] [] M L) : Good d 19 [.ref a0, .int a1] M L Q :=
  good_of (x := []) (mF_pn 19 (by decide)) (mF_cn 19 (by decide)) rfl (by rw [show mL 19 = 2 by decide +kernel]; exact (show 2 ≤ 2 by decide)) rfl (by simp) (wpN_runs oX2_above 60 0 _ _ _ _ h)
abbrev nX2_below : Nat := 20
def kX2_below_0 : List Instr := [.iload 1, .ifCond .le 10, .iload 1, .iconst 1, .isub, .goto 16]
def kX2_below_10 : List Instr := [.aload 0, .getfield 64, .iconst 1, .isub, .ireturn]
def kX2_below_16 : List Instr := [.ireturn]
def tX2_below : Bt := [(0, kX2_below_0), (10, kX2_below_10), (16, kX2_below_16)]
theorem tX2_below_0 : tb tX2_below 0 = kX2_below_0 := rfl
theorem tX2_below_10 : tb tX2_below 10 = kX2_below_10 := rfl
theorem tX2_below_16 : tb tX2_below 16 = kX2_below_16 := rfl
theorem oX2_below : okT 20 tX2_below = true := by decide +kernel
theorem eX2_below {d : Nat} {Q : Qt} {M : Mm} {L : Ml} (a0 : Nat) (a1 : Int32) (h : wpN 20 d tX2_below Q 60 0 [some (.ref a0), some (.int a1)] [] M L) : Good d 20 [.ref a0, .int a1] M L Q :=
  good_of (x := []) (mF_pn 20 (by decide)) (mF_cn 20 (by decide)) rfl (by rw [show mL 20 = 2 by decide +kernel]; exact (show 2 ≤ 2 by decide)) rfl (by simp) (wpN_runs oX2_below 60 0 _ _ _ _ h)
abbrev nX2_bitsOf : Nat := 21
def kX2_bitsOf_0 : List Instr := [.iconst 0, .istore 2, .iconst 0, .istore 3, .ret 4]
def kX2_bitsOf_4 : List Instr := [.ret 4]
def kX2_bitsOf_28 : List Instr := [.iinc 3 1, .goto 4]
def kX2_bitsOf_34 : List Instr := [.iload 2, .ireturn]
def hX2_bitsOf_4 : List Instr := [.iload 3, .aload 0, .getfield 64, .if_icmp .ge 34, .aload 0, .getstatic 73, .iload 3, .iaload, .iload 1, .if_icmp .ne 28, .iload 2, .iconst 1, .iload 3, .ishl, .ior, .istore 2, .iinc 3 1, .goto 4]
def tX2_bitsOf : Bt := [(0, kX2_bitsOf_0), (4, kX2_bitsOf_4), (28, kX2_bitsOf_28), (34, kX2_bitsOf_34)]
theorem tX2_bitsOf_0 : tb tX2_bitsOf 0 = kX2_bitsOf_0 := rfl
theorem tX2_bitsOf_4 : tb tX2_bitsOf 4 = kX2_bitsOf_4 := rfl
theorem tX2_bitsOf_28 : tb tX2_bitsOf 28 = kX2_bitsOf_28 := rfl
theorem tX2_bitsOf_34 : tb tX2_bitsOf 34 = kX2_bitsOf_34 := rfl
theorem oX2_bitsOf : okT 21 tX2_bitsOf = true := by decide +kernel
theorem oX2_bitsOf_4 : okB 21 4 hX2_bitsOf_4 = true := by decide +kernel
theorem eX2_bitsOf {d : Nat} {Q : Qt} {M : Mm} {L : Ml} (a0 : Nat) (a1 : Int32) (h : wpN 21 d tX2_bitsOf Q 60 0 [some (.ref a0), some (.int a1), none, none] [] M L) : Good d 21 [.ref a0, .int a1] M L Q :=
  good_of (x := [none, none]) (mF_pn 21 (by decide)) (mF_cn 21 (by decide)) rfl (by rw [show mL 21 = 4 by decide +kernel]; exact (show 2 ≤ 4 by decide)) rfl (by simp) (wpN_runs oX2_bitsOf 60 0 _ _ _ _ h)
abbrev nX2_howManyDead : Nat := 22
def kX2_howManyDead_0 : List Instr := [.iconst 0, .istore 1, .iconst 0, .istore 2, .ret 4]
def kX2_howManyDead_4 : List Instr := [.ret 4]
def kX2_howManyDead_25 : List Instr := [.iinc 2 1, .goto 4]
def kX2_howManyDead_31 : List Instr := [.iload 1, .ireturn]
def hX2_howManyDead_4 : List Instr := [.iload 2, .aload 0, .getfield 64, .if_icmp .ge 31, .aload 0, .getstatic 73, .iload 2, .iaload, .iconst 2, .if_icmp .ne 25, .iinc 1 1, .iinc 2 1, .goto 4]
def tX2_howManyDead : Bt := [(0, kX2_howManyDead_0), (4, kX2_howManyDead_4), (25, kX2_howManyDead_25), (31, kX2_howManyDead_31)]
theorem tX2_howManyDead_0 : tb tX2_howManyDead 0 = kX2_howManyDead_0 := rfl
theorem tX2_howManyDead_4 : tb tX2_howManyDead 4 = kX2_howManyDead_4 := rfl
theorem tX2_howManyDead_25 : tb tX2_howManyDead 25 = kX2_howManyDead_25 := rfl
theorem tX2_howManyDead_31 : tb tX2_howManyDead 31 = kX2_howManyDead_31 := rfl
theorem oX2_howManyDead : okT 22 tX2_howManyDead = true := by decide +kernel
theorem oX2_howManyDead_4 : okB 22 4 hX2_howManyDead_4 = true := by decide +kernel
theorem eX2_howManyDead {d : Nat} {Q : Qt} {M : Mm} {L : Ml} (a0 : Nat) (h : wpN 22 d tX2_howManyDead Q 60 0 [some (.ref a0), none, none] [] M L) : Good d 22 [.ref a0] M L Q :=
  good_of (x := [none, none]) (mF_pn 22 (by decide)) (mF_cn 22 (by decide)) rfl (by rw [show mL 22 = 3 by decide +kernel]; exact (show 1 ≤ 3 by decide)) rfl (by simp) (wpN_runs oX2_howManyDead 60 0 _ _ _ _ h)
abbrev nX2_lookersAt : Nat := 23
def kX2_lookersAt_0 : List Instr := [.iconst 0, .istore 2, .iconst 0, .istore 3, .ret 4]
def kX2_lookersAt_4 : List Instr := [.ret 4]
def kX2_lookersAt_28 : List Instr := [.iinc 3 1, .goto 4]
def kX2_lookersAt_34 : List Instr := [.iload 2, .ireturn]
def hX2_lookersAt_4 : List Instr := [.iload 3, .aload 0, .getfield 64, .if_icmp .ge 34, .aload 0, .getstatic 71, .iload 3, .iaload, .iload 1, .if_icmp .ne 28, .iload 2, .iconst 1, .iload 3, .ishl, .ior, .istore 2, .iinc 3 1, .goto 4]
def tX2_lookersAt : Bt := [(0, kX2_lookersAt_0), (4, kX2_lookersAt_4), (28, kX2_lookersAt_28), (34, kX2_lookersAt_34)]
theorem tX2_lookersAt_0 : tb tX2_lookersAt 0 = kX2_lookersAt_0 := rfl
theorem tX2_lookersAt_4 : tb tX2_lookersAt 4 = kX2_lookersAt_4 := rfl
theorem tX2_lookersAt_28 : tb tX2_lookersAt 28 = kX2_lookersAt_28 := rfl
theorem tX2_lookersAt_34 : tb tX2_lookersAt 34 = kX2_lookersAt_34 := rfl
theorem oX2_lookersAt : okT 23 tX2_lookersAt = true := by decide +kernel
theorem oX2_lookersAt_4 : okB 23 4 hX2_lookersAt_4 = true := by decide +kernel
theorem eX2_lookersAt {d : Nat} {Q : Qt} {M : Mm} {L : Ml} (a0 : Nat) (a1 : Int32) (h : wpN 23 d tX2_lookersAt Q 60 0 [some (.ref a0), some (.int a1), none, none] [] M L) : Good d 23 [.ref a0, .int a1] M L Q :=
  good_of (x := [none, none]) (mF_pn 23 (by decide)) (mF_cn 23 (by decide)) rfl (by rw [show mL 23 = 4 by decide +kernel]; exact (show 2 ≤ 4 by decide)) rfl (by simp) (wpN_runs oX2_lookersAt 60 0 _ _ _ _ h)
abbrev nX2_allSaw : Nat := 24
def kX2_allSaw_0 : List Instr := [.iconst 0, .istore 1, .iconst 0, .istore 2, .ret 4]
def kX2_allSaw_4 : List Instr := [.ret 4]
def kX2_allSaw_27 : List Instr := [.iload 1, .ireturn]
def hX2_allSaw_4 : List Instr := [.iload 2, .aload 0, .getfield 64, .if_icmp .ge 27, .iload 1, .aload 0, .getstatic 75, .iload 2, .iaload, .iadd, .istore 1, .iinc 2 1, .goto 4]
def tX2_allSaw : Bt := [(0, kX2_allSaw_0), (4, kX2_allSaw_4), (27, kX2_allSaw_27)]
theorem tX2_allSaw_0 : tb tX2_allSaw 0 = kX2_allSaw_0 := rfl
theorem tX2_allSaw_4 : tb tX2_allSaw 4 = kX2_allSaw_4 := rfl
theorem tX2_allSaw_27 : tb tX2_allSaw 27 = kX2_allSaw_27 := rfl
theorem oX2_allSaw : okT 24 tX2_allSaw = true := by decide +kernel
theorem oX2_allSaw_4 : okB 24 4 hX2_allSaw_4 = true := by decide +kernel
theorem eX2_allSaw {d : Nat} {Q : Qt} {M : Mm} {L : Ml} (a0 : Nat) (h : wpN 24 d tX2_allSaw Q 60 0 [some (.ref a0), none, none] [] M L) : Good d 24 [.ref a0] M L Q :=
  good_of (x := [none, none]) (mF_pn 24 (by decide)) (mF_cn 24 (by decide)) rfl (by rw [show mL 24 = 3 by decide +kernel]; exact (show 1 ≤ 3 by decide)) rfl (by simp) (wpN_runs oX2_allSaw 60 0 _ _ _ _ h)
abbrev nX2_giveRole : Nat := 25
def kX2_giveRole_0 : List Instr := [.aload 0, .iload 1, .putfield 65, .aload 0, .iconst 0, .new 68, .iconst 0, .istore 2, .ret 12]
def kX2_giveRole_12 : List Instr := [.ret 12]
def kX2_giveRole_33 : List Instr := [.return_]
def hX2_giveRole_12 : List Instr := [.iload 2, .aload 0, .getfield 64, .if_icmp .ge 33, .aload 0, .getstatic 75, .iload 2, .iconst 0, .iastore, .iinc 2 1, .goto 12]
def tX2_giveRole : Bt := [(0, kX2_giveRole_0), (12, kX2_giveRole_12), (33, kX2_giveRole_33)]
theorem tX2_giveRole_0 : tb tX2_giveRole 0 = kX2_giveRole_0 := rfl
theorem tX2_giveRole_12 : tb tX2_giveRole 12 = kX2_giveRole_12 := rfl
theorem tX2_giveRole_33 : tb tX2_giveRole 33 = kX2_giveRole_33 := rfl
theorem oX2_giveRole : okT 25 tX2_giveRole = true := by decide +kernel
theorem oX2_giveRole_12 : okB 25 12 hX2_giveRole_12 = true := by decide +kernel
theorem eX2_giveRole {d : Nat} {Q : Qt} {M : Mm} {L : Ml} (a0 : Nat) (a1 : Int32) (h : wpN 25 d tX2_giveRole Q 60 0 [some (.ref a0), some (.int a1), none] [] M L) : Good d 25 [.ref a0, .int a1] M L Q :=
  good_of (x := [none]) (mF_pn 25 (by decide)) (mF_cn 25 (by decide)) rfl (by rw [show mL 25 = 3 by decide +kernel]; exact (show 2 ≤ 3 by decide)) rfl (by simp) (wpN_runs oX2_giveRole 60 0 _ _ _ _ h)
abbrev nX2_sitUp : Nat := 26
def kX2_sitUp_0 : List Instr := [.aload 0, .getstatic 73, .iload 1, .iconst 0, .iastore, .aload 0, .getstatic 74, .iload 1, .iconst 0, .iastore, .aload 0, .getstatic 75, .iload 1, .iconst 0, .iastore, .aload 0, .getstatic 71, .iload 1, .aload 0, .iload 1, .invokeinterface 19 34, .iastore, .return_]
def tX2_sitUp : Bt := [(0, kX2_sitUp_0)]
theorem tX2_sitUp_0 : tb tX2_sitUp 0 = kX2_sitUp_0 := rfl
theorem oX2_sitUp : okT 26 tX2_sitUp = true := by decide +kernel
theorem eX2_sitUp {d : Nat} {Q : Qt} {M : Mm} {L : Ml} (a0 : Nat) (a1 : Int32) (h : wpN 26 d tX2_sitUp Q 60 0 [some (.ref a0), some (.int a1)] [] M L) : Good d 26 [.ref a0, .int a1] M L Q :=
  good_of (x := []) (mF_pn 26 (by decide)) (mF_cn 26 (by decide)) rfl (by rw [show mL 26 = 2 by decide +kernel]; exact (show 2 ≤ 2 by decide)) rfl (by simp) (wpN_runs oX2_sitUp 60 0 _ _ _ _ h)
abbrev nX2_isAsleep : Nat := 27
def kX2_isAsleep_0 : List Instr := [.aload 0, .getfield 69, .iload 1, .ishr, .iconst 1, .iand, .iconst 1, .if_icmp .ne 16, .iconst 1, .goto 17]
def kX2_isAsleep_16 : List Instr := [.iconst 0, .freturn]
def kX2_isAsleep_17 : List Instr := [.freturn]
def tX2_isAsleep : Bt := [(0, kX2_isAsleep_0), (16, kX2_isAsleep_16), (17, kX2_isAsleep_17)]
theorem tX2_isAsleep_0 : tb tX2_isAsleep 0 = kX2_isAsleep_0 := rfl
theorem tX2_isAsleep_16 : tb tX2_isAsleep 16 = kX2_isAsleep_16 := rfl
theorem tX2_isAsleep_17 : tb tX2_isAsleep 17 = kX2_isAsleep_17 := rfl
theorem oX2_isAsleep : okT 27 tX2_isAsleep = true := by decide +kernel
theorem eX2_isAsleep {d : Nat} {Q : Qt} {M : Mm} {L : Ml} (a0 : Nat) (a1 : Int32) (h : wpN 27 d tX2_isAsleep Q 60 0 [some (.ref a0), some (.int a1)] [] M L) : Good d 27 [.ref a0, .int a1] M L Q :=
  good_of (x := []) (mF_pn 27 (by decide)) (mF_cn 27 (by decide)) rfl (by rw [show mL 27 = 2 by decide +kernel]; exact (show 2 ≤ 2 by decide)) rfl (by simp) (wpN_runs oX2_isAsleep 60 0 _ _ _ _ h)
abbrev nX2_passTicks : Nat := 28
def kX2_passTicks_0 : List Instr := [.iconst 0, .istore 2, .ret 2]
def kX2_passTicks_2 : List Instr := [.ret 2]
def kX2_passTicks_17 : List Instr := [.return_]
def hX2_passTicks_2 : List Instr := [.iload 2, .iload 1, .if_icmp .ge 17, .aload 0, .invokeinterface 29 33, .iinc 2 1, .goto 2]
def tX2_passTicks : Bt := [(0, kX2_passTicks_0), (2, kX2_passTicks_2), (17, kX2_passTicks_17)]
theorem tX2_passTicks_0 : tb tX2_passTicks 0 = kX2_passTicks_0 := rfl
theorem tX2_passTicks_2 : tb tX2_passTicks 2 = kX2_passTicks_2 := rfl
theorem tX2_passTicks_17 : tb tX2_passTicks 17 = kX2_passTicks_17 := rfl
theorem oX2_passTicks : okT 28 tX2_passTicks = true := by decide +kernel
theorem oX2_passTicks_2 : okB 28 2 hX2_passTicks_2 = true := by decide +kernel
theorem eX2_passTicks {d : Nat} {Q : Qt} {M : Mm} {L : Ml} (a0 : Nat) (a1 : Int32) (h : wpN 28 d tX2_passTicks Q 60 0 [some (.ref a0), some (.int a1), none] [] M L) : Good d 28 [.ref a0, .int a1] M L Q :=
  good_of (x := [none]) (mF_pn 28 (by decide)) (mF_cn 28 (by decide)) rfl (by rw [show mL 28 = 3 by decide +kernel]; exact (show 2 ≤ 3 by decide)) rfl (by simp) (wpN_runs oX2_passTicks 60 0 _ _ _ _ h)
abbrev nX2_passTick : Nat := 29
def kX2_passTick_0 : List Instr := [.iconst 0, .istore 1, .ret 2]
def kX2_passTick_2 : List Instr := [.ret 2]
def kX2_passTick_27 : List Instr := [.aload 0, .invokeinterface 34 33, .aload 0, .invokeinterface 36 33, .aload 0, .dup, .getfield 67, .iconst 1, .iadd, .putfield 67, .return_]
def hX2_passTick_2 : List Instr := [.iload 1, .aload 0, .getfield 64, .if_icmp .ge 27, .aload 0, .getstatic 71, .iload 1, .aload 0, .iload 1, .invokeinterface 30 34, .iastore, .iinc 1 1, .goto 2]
def tX2_passTick : Bt := [(0, kX2_passTick_0), (2, kX2_passTick_2), (27, kX2_passTick_27)]
theorem tX2_passTick_0 : tb tX2_passTick 0 = kX2_passTick_0 := rfl
theorem tX2_passTick_2 : tb tX2_passTick 2 = kX2_passTick_2 := rfl
theorem tX2_passTick_27 : tb tX2_passTick 27 = kX2_passTick_27 := rfl
theorem oX2_passTick : okT 29 tX2_passTick = true := by decide +kernel
theorem oX2_passTick_2 : okB 29 2 hX2_passTick_2 = true := by decide +kernel
theorem eX2_passTick {d : Nat} {Q : Qt} {M : Mm} {L : Ml} (a0 : Nat) (h : wpN 29 d tX2_passTick Q 60 0 [some (.ref a0), none] [] M L) : Good d 29 [.ref a0] M L Q :=
  good_of (x := [none]) (mF_pn 29 (by decide)) (mF_cn 29 (by decide)) rfl (by rw [show mL 29 = 2 by decide +kernel]; exact (show 1 ≤ 2 by decide)) rfl (by simp) (wpN_runs oX2_passTick 60 0 _ _ _ _ h)
abbrev nX2_nextLook : Nat := 30
def kX2_nextLook_0 : List Instr := [.aload 0, .getstatic 73, .iload 1, .iaload, .iconst 2, .if_icmp .eq 18, .aload 0, .iload 1, .invokeinterface 27 34, .ifCond .eq 21, .iconst (-1000000), .ireturn]
def kX2_nextLook_18 : List Instr := [.iconst (-1000000), .ireturn]
def kX2_nextLook_21 : List Instr := [.aload 0, .getstatic 70, .iload 1, .iaload, .lookupswitch 81 #[(1, 56), (2, 62), (3, 69), (4, 75)]]
def kX2_nextLook_56 : List Instr := [.aload 0, .iload 1, .invokeinterface 31 34, .ireturn]
def kX2_nextLook_62 : List Instr := [.aload 0, .getstatic 71, .iload 1, .iaload, .ireturn]
def kX2_nextLook_69 : List Instr := [.aload 0, .iload 1, .invokeinterface 32 34, .ireturn]
def kX2_nextLook_75 : List Instr := [.aload 0, .iload 1, .invokeinterface 33 34, .ireturn]
def kX2_nextLook_81 : List Instr := [.aload 0, .getfield 67, .iconst 2, .irem, .ifCond .ne 98, .aload 0, .iload 1, .invokeinterface 33 34, .goto 100]
def kX2_nextLook_98 : List Instr := [.iconst (-1000000), .ireturn]
def kX2_nextLook_100 : List Instr := [.ireturn]
def tX2_nextLook : Bt := [(0, kX2_nextLook_0), (18, kX2_nextLook_18), (21, kX2_nextLook_21), (56, kX2_nextLook_56), (62, kX2_nextLook_62), (69, kX2_nextLook_69), (75, kX2_nextLook_75), (81, kX2_nextLook_81), (98, kX2_nextLook_98), (100, kX2_nextLook_100)]
theorem tX2_nextLook_0 : tb tX2_nextLook 0 = kX2_nextLook_0 := rfl
theorem tX2_nextLook_18 : tb tX2_nextLook 18 = kX2_nextLook_18 := rfl
theorem tX2_nextLook_21 : tb tX2_nextLook 21 = kX2_nextLook_21 := rfl
theorem tX2_nextLook_56 : tb tX2_nextLook 56 = kX2_nextLook_56 := rfl
theorem tX2_nextLook_62 : tb tX2_nextLook 62 = kX2_nextLook_62 := rfl
theorem tX2_nextLook_69 : tb tX2_nextLook 69 = kX2_nextLook_69 := rfl
theorem tX2_nextLook_75 : tb tX2_nextLook 75 = kX2_nextLook_75 := rfl
theorem tX2_nextLook_81 : tb tX2_nextLook 81 = kX2_nextLook_81 := rfl
theorem tX2_nextLook_98 : tb tX2_nextLook 98 = kX2_nextLook_98 := rfl
theorem tX2_nextLook_100 : tb tX2_nextLook 100 = kX2_nextLook_100 := rfl
theorem oX2_nextLook : okT 30 tX2_nextLook = true := by decide +kernel
theorem eX2_nextLook {d : Nat} {Q : Qt} {M : Mm} {L : Ml} (a0 : Nat) (a1 : Int32) (h : wpN 30 d tX2_nextLook Q 60 0 [some (.ref a0), some (.int a1)] [] M L) : Good d 30 [.ref a0, .int a1] M L Q :=
  good_of (x := []) (mF_pn 30 (by decide)) (mF_cn 30 (by decide)) rfl (by rw [show mL 30 = 2 by decide +kernel]; exact (show 2 ≤ 2 by decide)) rfl (by simp) (wpN_runs oX2_nextLook 60 0 _ _ _ _ h)
abbrev nX2_roveUp : Nat := 31
def kX2_roveUp_0 : List Instr := [.aload 0, .aload 0, .getstatic 71, .iload 1, .iaload, .iconst (-1000000), .if_icmp .ne 16, .iload 1, .goto 22]
def kX2_roveUp_16 : List Instr := [.aload 0, .getstatic 71, .iload 1, .iaload, .invokeinterface 19 34, .istore 2, .iload 2, .iload 1, .if_icmp .ne 39, .aload 0, .iload 2, .invokeinterface 19 34, .goto 40]
def kX2_roveUp_22 : List Instr := [.invokeinterface 19 34, .istore 2, .iload 2, .iload 1, .if_icmp .ne 39, .aload 0, .iload 2, .invokeinterface 19 34, .goto 40]
def kX2_roveUp_39 : List Instr := [.iload 2, .ireturn]
def kX2_roveUp_40 : List Instr := [.ireturn]
def tX2_roveUp : Bt := [(0, kX2_roveUp_0), (16, kX2_roveUp_16), (22, kX2_roveUp_22), (39, kX2_roveUp_39), (40, kX2_roveUp_40)]
theorem tX2_roveUp_0 : tb tX2_roveUp 0 = kX2_roveUp_0 := rfl
theorem tX2_roveUp_16 : tb tX2_roveUp 16 = kX2_roveUp_16 := rfl
theorem tX2_roveUp_22 : tb tX2_roveUp 22 = kX2_roveUp_22 := rfl
theorem tX2_roveUp_39 : tb tX2_roveUp 39 = kX2_roveUp_39 := rfl
theorem tX2_roveUp_40 : tb tX2_roveUp 40 = kX2_roveUp_40 := rfl
theorem oX2_roveUp : okT 31 tX2_roveUp = true := by decide +kernel
theorem eX2_roveUp {d : Nat} {Q : Qt} {M : Mm} {L : Ml} (a0 : Nat) (a1 : Int32) (h : wpN 31 d tX2_roveUp Q 60 0 [some (.ref a0), some (.int a1), none] [] M L) : Good d 31 [.ref a0, .int a1] M L Q :=
  good_of (x := [none]) (mF_pn 31 (by decide)) (mF_cn 31 (by decide)) rfl (by rw [show mL 31 = 3 by decide +kernel]; exact (show 2 ≤ 3 by decide)) rfl (by simp) (wpN_runs oX2_roveUp 60 0 _ _ _ _ h)
abbrev nX2_roveDown : Nat := 32
def kX2_roveDown_0 : List Instr := [.aload 0, .aload 0, .getstatic 71, .iload 1, .iaload, .iconst (-1000000), .if_icmp .ne 16, .iload 1, .goto 22]
def kX2_roveDown_16 : List Instr := [.aload 0, .getstatic 71, .iload 1, .iaload, .invokeinterface 20 34, .istore 2, .iload 2, .iload 1, .if_icmp .ne 39, .aload 0, .iload 2, .invokeinterface 20 34, .goto 40]
def kX2_roveDown_22 : List Instr := [.invokeinterface 20 34, .istore 2, .iload 2, .iload 1, .if_icmp .ne 39, .aload 0, .iload 2, .invokeinterface 20 34, .goto 40]
def kX2_roveDown_39 : List Instr := [.iload 2, .ireturn]
def kX2_roveDown_40 : List Instr := [.ireturn]
def tX2_roveDown : Bt := [(0, kX2_roveDown_0), (16, kX2_roveDown_16), (22, kX2_roveDown_22), (39, kX2_roveDown_39), (40, kX2_roveDown_40)]
theorem tX2_roveDown_0 : tb tX2_roveDown 0 = kX2_roveDown_0 := rfl
theorem tX2_roveDown_16 : tb tX2_roveDown 16 = kX2_roveDown_16 := rfl
theorem tX2_roveDown_22 : tb tX2_roveDown 22 = kX2_roveDown_22 := rfl
theorem tX2_roveDown_39 : tb tX2_roveDown 39 = kX2_roveDown_39 := rfl
theorem tX2_roveDown_40 : tb tX2_roveDown 40 = kX2_roveDown_40 := rfl
theorem oX2_roveDown : okT 32 tX2_roveDown = true := by decide +kernel
theorem eX2_roveDown {d : Nat} {Q : Qt} {M : Mm} {L : Ml} (a0 : Nat) (a1 : Int32) (h : wpN 32 d tX2_roveDown Q 60 0 [some (.ref a0), some (.int a1), none] [] M L) : Good d 32 [.ref a0, .int a1] M L Q :=
  good_of (x := [none]) (mF_pn 32 (by decide)) (mF_cn 32 (by decide)) rfl (by rw [show mL 32 = 3 by decide +kernel]; exact (show 2 ≤ 3 by decide)) rfl (by simp) (wpN_runs oX2_roveDown 60 0 _ _ _ _ h)
abbrev nX2_nextNotDead : Nat := 33
def kX2_nextNotDead_0 : List Instr := [.iload 1, .istore 2, .iconst 1, .istore 3, .ret 4]
def kX2_nextNotDead_4 : List Instr := [.ret 4]
def kX2_nextNotDead_30 : List Instr := [.iinc 3 1, .goto 4]
def kX2_nextNotDead_36 : List Instr := [.iconst (-1000000), .ireturn]
def hX2_nextNotDead_4 : List Instr := [.iload 3, .aload 0, .getfield 64, .if_icmp .ge 36, .aload 0, .iload 2, .invokeinterface 19 34, .istore 2, .aload 0, .getstatic 73, .iload 2, .iaload, .iconst 2, .if_icmp .eq 30, .iload 2, .ireturn]
def tX2_nextNotDead : Bt := [(0, kX2_nextNotDead_0), (4, kX2_nextNotDead_4), (30, kX2_nextNotDead_30), (36, kX2_nextNotDead_36)]
theorem tX2_nextNotDead_0 : tb tX2_nextNotDead 0 = kX2_nextNotDead_0 := rfl
theorem tX2_nextNotDead_4 : tb tX2_nextNotDead 4 = kX2_nextNotDead_4 := rfl
theorem tX2_nextNotDead_30 : tb tX2_nextNotDead 30 = kX2_nextNotDead_30 := rfl
theorem tX2_nextNotDead_36 : tb tX2_nextNotDead 36 = kX2_nextNotDead_36 := rfl
theorem oX2_nextNotDead : okT 33 tX2_nextNotDead = true := by decide +kernel
theorem oX2_nextNotDead_4 : okB 33 4 hX2_nextNotDead_4 = true := by decide +kernel
theorem eX2_nextNotDead {d : Nat} {Q : Qt} {M : Mm} {L : Ml} (a0 : Nat) (a1 : Int32) (h : wpN 33 d tX2_nextNotDead Q 60 0 [some (.ref a0), some (.int a1), none, none] [] M L) : Good d 33 [.ref a0, .int a1] M L Q :=
  good_of (x := [none, none]) (mF_pn 33 (by decide)) (mF_cn 33 (by decide)) rfl (by rw [show mL 33 = 4 by decide +kernel]; exact (show 2 ≤ 4 by decide)) rfl (by simp) (wpN_runs oX2_nextNotDead 60 0 _ _ _ _ h)
abbrev nX2_wink : Nat := 34
def kX2_wink_0 : List Instr := [.aload 0, .getfield 68, .ifCond .ne 31, .aload 0, .aload 0, .getfield 65, .invokeinterface 17 34, .ifCond .eq 31, .aload 0, .getstatic 73, .aload 0, .getfield 65, .iaload, .iconst 2, .if_icmp .ne 32, .return_]
def kX2_wink_31 : List Instr := [.return_]
def kX2_wink_32 : List Instr := [.aload 0, .getstatic 71, .aload 0, .getfield 65, .iaload, .istore 1, .aload 0, .iload 1, .invokeinterface 17 34, .ifCond .eq 72, .aload 0, .getstatic 73, .iload 1, .iaload, .ifCond .ne 72, .aload 0, .getstatic 71, .iload 1, .iaload, .aload 0, .getfield 65, .if_icmp .eq 73, .return_]
def kX2_wink_72 : List Instr := [.return_]
def kX2_wink_73 : List Instr := [.aload 0, .getstatic 73, .iload 1, .iconst 1, .iastore, .aload 0, .getstatic 74, .iload 1, .aload 0, .getstatic 72, .iload 1, .iaload, .iconst 1, .iadd, .iastore, .iconst 0, .istore 2, .ret 96]
def kX2_wink_96 : List Instr := [.ret 96]
def kX2_wink_145 : List Instr := [.iinc 2 1, .goto 96]
def kX2_wink_151 : List Instr := [.return_]
def hX2_wink_96 : List Instr := [.iload 2, .aload 0, .getfield 64, .if_icmp .ge 151, .iload 2, .iload 1, .if_icmp .eq 145, .iload 2, .aload 0, .getfield 65, .if_icmp .eq 145, .aload 0, .getstatic 73, .iload 2, .iaload, .iconst 2, .if_icmp .eq 145, .aload 0, .getstatic 71, .iload 2, .iaload, .aload 0, .getfield 65, .if_icmp .ne 145, .aload 0, .iload 2, .invokeinterface 35 34, .iinc 2 1, .goto 96]
def tX2_wink : Bt := [(0, kX2_wink_0), (31, kX2_wink_31), (32, kX2_wink_32), (72, kX2_wink_72), (73, kX2_wink_73), (96, kX2_wink_96), (145, kX2_wink_145), (151, kX2_wink_151)]
theorem tX2_wink_0 : tb tX2_wink 0 = kX2_wink_0 := rfl
theorem tX2_wink_31 : tb tX2_wink 31 = kX2_wink_31 := rfl
theorem tX2_wink_32 : tb tX2_wink 32 = kX2_wink_32 := rfl
theorem tX2_wink_72 : tb tX2_wink 72 = kX2_wink_72 := rfl
theorem tX2_wink_73 : tb tX2_wink 73 = kX2_wink_73 := rfl
theorem tX2_wink_96 : tb tX2_wink 96 = kX2_wink_96 := rfl
theorem tX2_wink_145 : tb tX2_wink 145 = kX2_wink_145 := rfl
theorem tX2_wink_151 : tb tX2_wink 151 = kX2_wink_151 := rfl
theorem oX2_wink : okT 34 tX2_wink = true := by decide +kernel
theorem oX2_wink_96 : okB 34 96 hX2_wink_96 = true := by decide +kernel
theorem eX2_wink {d : Nat} {Q : Qt} {M : Mm} {L : Ml} (a0 : Nat) (h : wpN 34 d tX2_wink Q 60 0 [some (.ref a0), none, none] [] M L) : Good d 34 [.ref a0] M L Q :=
  good_of (x := [none, none]) (mF_pn 34 (by decide)) (mF_cn 34 (by decide)) rfl (by rw [show mL 34 = 3 by decide +kernel]; exact (show 1 ≤ 3 by decide)) rfl (by simp) (wpN_runs oX2_wink 60 0 _ _ _ _ h)
abbrev nX2_seeWink : Nat := 35
def kX2_seeWink_0 : List Instr := [.aload 0, .getstatic 75, .iload 1, .iaload, .iconst 99, .if_icmp .ge 21, .aload 0, .getstatic 75, .iload 1, .dup2, .iaload, .iconst 1, .iadd, .iastore, .aload 0, .getstatic 75, .iload 1, .iaload, .aload 0, .getfield 66, .if_icmp .lt 39, .aload 0, .iconst 1, .new 68, .return_]
def kX2_seeWink_21 : List Instr := [.aload 0, .getstatic 75, .iload 1, .iaload, .aload 0, .getfield 66, .if_icmp .lt 39, .aload 0, .iconst 1, .new 68, .return_]
def kX2_seeWink_39 : List Instr := [.return_]
def tX2_seeWink : Bt := [(0, kX2_seeWink_0), (21, kX2_seeWink_21), (39, kX2_seeWink_39)]
theorem tX2_seeWink_0 : tb tX2_seeWink 0 = kX2_seeWink_0 := rfl
theorem tX2_seeWink_21 : tb tX2_seeWink 21 = kX2_seeWink_21 := rfl
theorem tX2_seeWink_39 : tb tX2_seeWink 39 = kX2_seeWink_39 := rfl
theorem oX2_seeWink : okT 35 tX2_seeWink = true := by decide +kernel
theorem eX2_seeWink {d : Nat} {Q : Qt} {M : Mm} {L : Ml} (a0 : Nat) (a1 : Int32) (h : wpN 35 d tX2_seeWink Q 60 0 [some (.ref a0), some (.int a1)] [] M L) : Good d 35 [.ref a0, .int a1] M L Q :=
  good_of (x := []) (mF_pn 35 (by decide)) (mF_cn 35 (by decide)) rfl (by rw [show mL 35 = 2 by decide +kernel]; exact (show 2 ≤ 2 by decide)) rfl (by simp) (wpN_runs oX2_seeWink 60 0 _ _ _ _ h)
abbrev nX2_fade : Nat := 36
def kX2_fade_0 : List Instr := [.iconst 0, .istore 1, .ret 2]
def kX2_fade_2 : List Instr := [.ret 2]
def kX2_fade_61 : List Instr := [.iinc 1 1, .goto 2]
def kX2_fade_67 : List Instr := [.return_]
def hX2_fade_2 : List Instr := [.iload 1, .aload 0, .getfield 64, .if_icmp .ge 67, .aload 0, .getstatic 73, .iload 1, .iaload, .iconst 1, .if_icmp .ne 61, .aload 0, .getstatic 74, .iload 1, .dup2, .iaload, .iconst 1, .isub, .iastore, .aload 0, .getstatic 74, .iload 1, .iaload, .ifCond .gt 61, .aload 0, .getstatic 74, .iload 1, .iconst 0, .iastore, .aload 0, .getstatic 73, .iload 1, .iconst 2, .iastore, .aload 0, .getstatic 71, .iload 1, .iconst (-1000000), .iastore, .iinc 1 1, .goto 2]
def tX2_fade : Bt := [(0, kX2_fade_0), (2, kX2_fade_2), (61, kX2_fade_61), (67, kX2_fade_67)]
theorem tX2_fade_0 : tb tX2_fade 0 = kX2_fade_0 := rfl
theorem tX2_fade_2 : tb tX2_fade 2 = kX2_fade_2 := rfl
theorem tX2_fade_61 : tb tX2_fade 61 = kX2_fade_61 := rfl
theorem tX2_fade_67 : tb tX2_fade 67 = kX2_fade_67 := rfl
theorem oX2_fade : okT 36 tX2_fade = true := by decide +kernel
theorem oX2_fade_2 : okB 36 2 hX2_fade_2 = true := by decide +kernel
theorem eX2_fade {d : Nat} {Q : Qt} {M : Mm} {L : Ml} (a0 : Nat) (h : wpN 36 d tX2_fade Q 60 0 [some (.ref a0), none] [] M L) : Good d 36 [.ref a0] M L Q :=
  good_of (x := [none]) (mF_pn 36 (by decide)) (mF_cn 36 (by decide)) rfl (by rw [show mL 36 = 2 by decide +kernel]; exact (show 1 ≤ 2 by decide)) rfl (by simp) (wpN_runs oX2_fade 60 0 _ _ _ _ h)
abbrev nX3_make : Nat := 37
def kX3_make_0 : List Instr := [.aload 0, .getstatic 97, .iload 1, .iload 2, .iastore, .aload 0, .getstatic 98, .iload 1, .iload 3, .iastore, .iconst 0, .istore 4, .ret 17]
def kX3_make_17 : List Instr := [.ret 17]
def kX3_make_40 : List Instr := [.return_]
def hX3_make_17 : List Instr := [.iload 4, .iconst 40, .if_icmp .ge 40, .aload 0, .getstatic 96, .iload 1, .aaload, .iload 4, .iconst 0, .iastore, .iinc 4 1, .goto 17]
def tX3_make : Bt := [(0, kX3_make_0), (17, kX3_make_17), (40, kX3_make_40)]
theorem tX3_make_0 : tb tX3_make 0 = kX3_make_0 := rfl
theorem tX3_make_17 : tb tX3_make 17 = kX3_make_17 := rfl
theorem tX3_make_40 : tb tX3_make 40 = kX3_make_40 := rfl
theorem oX3_make : okT 37 tX3_make = true := by decide +kernel
theorem oX3_make_17 : okB 37 17 hX3_make_17 = true := by decide +kernel
theorem eX3_make {d : Nat} {Q : Qt} {M : Mm} {L : Ml} (a0 : Nat) (a1 : Int32) (a2 : Int32) (a3 : Int32) (h : wpN 37 d tX3_make Q 60 0 [some (.ref a0), some (.int a1), some (.int a2), some (.int a3), none] [] M L) : Good d 37 [.ref a0, .int a1, .int a2, .int a3] M L Q :=
  good_of (x := [none]) (mF_pn 37 (by decide)) (mF_cn 37 (by decide)) rfl (by rw [show mL 37 = 5 by decide +kernel]; exact (show 4 ≤ 5 by decide)) rfl (by simp) (wpN_runs oX3_make 60 0 _ _ _ _ h)
abbrev nX3_put : Nat := 38
def kX3_put_0 : List Instr := [.iload 3, .istore 4, .aload 0, .getstatic 97, .iload 1, .iaload, .ifCond .ne 19, .iload 3, .i2b, .istore 4, .goto 33]
def kX3_put_19 : List Instr := [.aload 0, .getstatic 97, .iload 1, .iaload, .iconst 1, .if_icmp .ne 33, .iload 3, .i2s, .istore 4, .aload 0, .getstatic 96, .iload 1, .aaload, .iload 2, .iload 4, .iastore, .iload 4, .ireturn]
def kX3_put_33 : List Instr := [.aload 0, .getstatic 96, .iload 1, .aaload, .iload 2, .iload 4, .iastore, .iload 4, .ireturn]
def tX3_put : Bt := [(0, kX3_put_0), (19, kX3_put_19), (33, kX3_put_33)]
theorem tX3_put_0 : tb tX3_put 0 = kX3_put_0 := rfl
theorem tX3_put_19 : tb tX3_put 19 = kX3_put_19 := rfl
theorem tX3_put_33 : tb tX3_put 33 = kX3_put_33 := rfl
theorem oX3_put : okT 38 tX3_put = true := by decide +kernel
theorem eX3_put {d : Nat} {Q : Qt} {M : Mm} {L : Ml} (a0 : Nat) (a1 : Int32) (a2 : Int32) (a3 : Int32) (h : wpN 38 d tX3_put Q 60 0 [some (.ref a0), some (.int a1), some (.int a2), some (.int a3), none] [] M L) : Good d 38 [.ref a0, .int a1, .int a2, .int a3] M L Q :=
  good_of (x := [none]) (mF_pn 38 (by decide)) (mF_cn 38 (by decide)) rfl (by rw [show mL 38 = 5 by decide +kernel]; exact (show 4 ≤ 5 by decide)) rfl (by simp) (wpN_runs oX3_put 60 0 _ _ _ _ h)
abbrev nX3_item : Nat := 39
def kX3_item_0 : List Instr := [.aload 0, .getstatic 96, .iload 1, .aaload, .iload 2, .iaload, .ireturn]
def tX3_item : Bt := [(0, kX3_item_0)]
theorem tX3_item_0 : tb tX3_item 0 = kX3_item_0 := rfl
theorem oX3_item : okT 39 tX3_item = true := by decide +kernel
theorem eX3_item {d : Nat} {Q : Qt} {M : Mm} {L : Ml} (a0 : Nat) (a1 : Int32) (a2 : Int32) (h : wpN 39 d tX3_item Q 60 0 [some (.ref a0), some (.int a1), some (.int a2)] [] M L) : Good d 39 [.ref a0, .int a1, .int a2] M L Q :=
  good_of (x := []) (mF_pn 39 (by decide)) (mF_cn 39 (by decide)) rfl (by rw [show mL 39 = 3 by decide +kernel]; exact (show 3 ≤ 3 by decide)) rfl (by simp) (wpN_runs oX3_item 60 0 _ _ _ _ h)
abbrev nX3_move : Nat := 40
def kX3_move_0 : List Instr := [.aload 0, .getstatic 96, .iload 1, .aaload, .iload 2, .aload 0, .getstatic 96, .iload 3, .aaload, .iload 4, .iload 5, .checkcast 0, .return_]
def tX3_move : Bt := [(0, kX3_move_0)]
theorem tX3_move_0 : tb tX3_move 0 = kX3_move_0 := rfl
theorem oX3_move : okT 40 tX3_move = true := by decide +kernel
theorem eX3_move {d : Nat} {Q : Qt} {M : Mm} {L : Ml} (a0 : Nat) (a1 : Int32) (a2 : Int32) (a3 : Int32) (a4 : Int32) (a5 : Int32) (h : wpN 40 d tX3_move Q 60 0 [some (.ref a0), some (.int a1), some (.int a2), some (.int a3), some (.int a4), some (.int a5)] [] M L) : Good d 40 [.ref a0, .int a1, .int a2, .int a3, .int a4, .int a5] M L Q :=
  good_of (x := []) (mF_pn 40 (by decide)) (mF_cn 40 (by decide)) rfl (by rw [show mL 40 = 6 by decide +kernel]; exact (show 6 ≤ 6 by decide)) rfl (by simp) (wpN_runs oX3_move 60 0 _ _ _ _ h)
abbrev nX3_remove : Nat := 41
def kX3_remove_0 : List Instr := [.aload 0, .getstatic 98, .iload 1, .iaload, .istore 2, .aload 0, .getstatic 98, .iload 1, .iconst (-1), .iastore, .iload 2, .ireturn]
def tX3_remove : Bt := [(0, kX3_remove_0)]
theorem tX3_remove_0 : tb tX3_remove 0 = kX3_remove_0 := rfl
theorem oX3_remove : okT 41 tX3_remove = true := by decide +kernel
theorem eX3_remove {d : Nat} {Q : Qt} {M : Mm} {L : Ml} (a0 : Nat) (a1 : Int32) (h : wpN 41 d tX3_remove Q 60 0 [some (.ref a0), some (.int a1), none] [] M L) : Good d 41 [.ref a0, .int a1] M L Q :=
  good_of (x := [none]) (mF_pn 41 (by decide)) (mF_cn 41 (by decide)) rfl (by rw [show mL 41 = 3 by decide +kernel]; exact (show 2 ≤ 3 by decide)) rfl (by simp) (wpN_runs oX3_remove 60 0 _ _ _ _ h)
