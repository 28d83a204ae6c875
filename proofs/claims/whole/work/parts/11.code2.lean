abbrev nX6_row : Nat := 84
def kX6_row_0 : List Instr := [.iload 1, .multianewarray 123 1, .ifCond .eq 22, .iload 2, .ifCond .lt 22, .iload 2, .iconst 2, .if_icmp .gt 22, .iload 3, .iconst 40, .if_icmp .le 25, .iconst (-1000001), .ireturn]
def kX6_row_22 : List Instr := [.iconst (-1000001), .ireturn]
def kX6_row_25 : List Instr := [.iload 3, .ifCond .ge 35, .aload 0, .iconst 4, .invokeinterface 121 98, .ireturn]
def kX6_row_35 : List Instr := [.aload 0, .getstatic 192, .iload 1, .iload 2, .iload 3, .invokeinterface 37 52, .aload 0, .iload 3, .invokeinterface 122 98, .ireturn]
def tX6_row : Bt := [(0, kX6_row_0), (22, kX6_row_22), (25, kX6_row_25), (35, kX6_row_35)]
theorem tX6_row_0 : tb tX6_row 0 = kX6_row_0 := rfl
theorem tX6_row_22 : tb tX6_row 22 = kX6_row_22 := rfl
theorem tX6_row_25 : tb tX6_row 25 = kX6_row_25 := rfl
theorem tX6_row_35 : tb tX6_row 35 = kX6_row_35 := rfl
theorem oX6_row : okT 84 tX6_row = true := by decide +kernel
theorem eX6_row {d : Nat} {Q : Qt} {M : Mm} {L : Ml} (a0 : Nat) (a1 : Int32) (a2 : Int32) (a3 : Int32) (h : wpN 84 d tX6_row Q 60 0 [some (.ref a0), some (.int a1), some (.int a2), some (.int a3)] [] M L) : Good d 84 [.ref a0, .int a1, .int a2, .int a3] M L Q :=
  good_of (x := []) (mF_pn 84 (by decide)) (mF_cn 84 (by decide)) rfl (by rw [show mL 84 = 4 by decide +kernel]; exact (show 4 ≤ 4 by decide)) rfl (by simp) (wpN_runs oX6_row 60 0 _ _ _ _ h)
abbrev nX6_set : Nat := 85
def kX6_set_0 : List Instr := [.iload 1, .multianewarray 123 1, .ifCond .ne 10, .iconst (-1000001), .ireturn]
def kX6_set_10 : List Instr := [.aload 0, .getstatic 192, .iload 1, .iload 2, .iconst 1, .invokeinterface 44 52, .istore 4, .iload 4, .ifCond .eq 34, .aload 0, .iload 4, .invokeinterface 121 98, .ireturn]
def kX6_set_34 : List Instr := [.aload 0, .aload 0, .getstatic 192, .iload 1, .iload 2, .iload 3, .invokeinterface 38 52, .invokeinterface 122 98, .ireturn]
def tX6_set : Bt := [(0, kX6_set_0), (10, kX6_set_10), (34, kX6_set_34)]
theorem tX6_set_0 : tb tX6_set 0 = kX6_set_0 := rfl
theorem tX6_set_10 : tb tX6_set 10 = kX6_set_10 := rfl
theorem tX6_set_34 : tb tX6_set 34 = kX6_set_34 := rfl
theorem oX6_set : okT 85 tX6_set = true := by decide +kernel
theorem eX6_set {d : Nat} {Q : Qt} {M : Mm} {L : Ml} (a0 : Nat) (a1 : Int32) (a2 : Int32) (a3 : Int32) (h : wpN 85 d tX6_set Q 60 0 [some (.ref a0), some (.int a1), some (.int a2), some (.int a3), none] [] M L) : Good d 85 [.ref a0, .int a1, .int a2, .int a3] M L Q :=
  good_of (x := [none]) (mF_pn 85 (by decide)) (mF_cn 85 (by decide)) rfl (by rw [show mL 85 = 5 by decide +kernel]; exact (show 4 ≤ 5 by decide)) rfl (by simp) (wpN_runs oX6_set 60 0 _ _ _ _ h)
abbrev nX6_copy : Nat := 86
def kX6_copy_0 : List Instr := [.iload 1, .multianewarray 123 1, .ifCond .eq 14, .iload 3, .multianewarray 123 1, .ifCond .ne 17, .iconst (-1000001), .ireturn]
def kX6_copy_14 : List Instr := [.iconst (-1000001), .ireturn]
def kX6_copy_17 : List Instr := [.aload 0, .getstatic 192, .iload 1, .iload 2, .iload 3, .iload 4, .iload 5, .invokeinterface 45 54, .istore 6, .iload 6, .ifCond .eq 45, .aload 0, .iload 6, .invokeinterface 121 98, .ireturn]
def kX6_copy_45 : List Instr := [.aload 0, .getstatic 192, .iload 1, .iload 2, .iload 3, .iload 4, .iload 5, .invokeinterface 40 54, .aload 0, .iload 5, .invokeinterface 122 98, .ireturn]
def tX6_copy : Bt := [(0, kX6_copy_0), (14, kX6_copy_14), (17, kX6_copy_17), (45, kX6_copy_45)]
theorem tX6_copy_0 : tb tX6_copy 0 = kX6_copy_0 := rfl
theorem tX6_copy_14 : tb tX6_copy 14 = kX6_copy_14 := rfl
theorem tX6_copy_17 : tb tX6_copy 17 = kX6_copy_17 := rfl
theorem tX6_copy_45 : tb tX6_copy 45 = kX6_copy_45 := rfl
theorem oX6_copy : okT 86 tX6_copy = true := by decide +kernel
theorem eX6_copy {d : Nat} {Q : Qt} {M : Mm} {L : Ml} (a0 : Nat) (a1 : Int32) (a2 : Int32) (a3 : Int32) (a4 : Int32) (a5 : Int32) (h : wpN 86 d tX6_copy Q 60 0 [some (.ref a0), some (.int a1), some (.int a2), some (.int a3), some (.int a4), some (.int a5), none] [] M L) : Good d 86 [.ref a0, .int a1, .int a2, .int a3, .int a4, .int a5] M L Q :=
  good_of (x := [none]) (mF_pn 86 (by decide)) (mF_cn 86 (by decide)) rfl (by rw [show mL 86 = 7 by decide +kernel]; exact (show 6 ≤ 7 by decide)) rfl (by simp) (wpN_runs oX6_copy 60 0 _ _ _ _ h)
abbrev nX6_drop : Nat := 87
def kX6_drop_0 : List Instr := [.iload 1, .multianewarray 123 1, .ifCond .ne 10, .iconst (-1000001), .ireturn]
def kX6_drop_10 : List Instr := [.aload 0, .getstatic 192, .iload 1, .invokeinterface 42 50, .ifCond .eq 27, .aload 0, .iconst 1, .invokeinterface 121 98, .ireturn]
def kX6_drop_27 : List Instr := [.aload 0, .aload 0, .getstatic 192, .iload 1, .invokeinterface 41 50, .invokeinterface 122 98, .ireturn]
def tX6_drop : Bt := [(0, kX6_drop_0), (10, kX6_drop_10), (27, kX6_drop_27)]
theorem tX6_drop_0 : tb tX6_drop 0 = kX6_drop_0 := rfl
theorem tX6_drop_10 : tb tX6_drop 10 = kX6_drop_10 := rfl
theorem tX6_drop_27 : tb tX6_drop 27 = kX6_drop_27 := rfl
theorem oX6_drop : okT 87 tX6_drop = true := by decide +kernel
theorem eX6_drop {d : Nat} {Q : Qt} {M : Mm} {L : Ml} (a0 : Nat) (a1 : Int32) (h : wpN 87 d tX6_drop Q 60 0 [some (.ref a0), some (.int a1)] [] M L) : Good d 87 [.ref a0, .int a1] M L Q :=
  good_of (x := []) (mF_pn 87 (by decide)) (mF_cn 87 (by decide)) rfl (by rw [show mL 87 = 2 by decide +kernel]; exact (show 2 ≤ 2 by decide)) rfl (by simp) (wpN_runs oX6_drop 60 0 _ _ _ _ h)
abbrev nX6_feed : Nat := 88
def kX6_feed_0 : List Instr := [.iload 1, .ifCond .lt 11, .iload 1, .iconst 255, .if_icmp .le 14, .iconst (-1000001), .ireturn]
def kX6_feed_11 : List Instr := [.iconst (-1000001), .ireturn]
def kX6_feed_14 : List Instr := [.aload 0, .getstatic 193, .invokeinterface 73 81, .ifCond .eq 27, .iconst (-1000003), .ireturn]
def kX6_feed_27 : List Instr := [.aload 0, .getstatic 193, .iload 1, .invokeinterface 75 82, .ireturn]
def tX6_feed : Bt := [(0, kX6_feed_0), (11, kX6_feed_11), (14, kX6_feed_14), (27, kX6_feed_27)]
theorem tX6_feed_0 : tb tX6_feed 0 = kX6_feed_0 := rfl
theorem tX6_feed_11 : tb tX6_feed 11 = kX6_feed_11 := rfl
theorem tX6_feed_14 : tb tX6_feed 14 = kX6_feed_14 := rfl
theorem tX6_feed_27 : tb tX6_feed 27 = kX6_feed_27 := rfl
theorem oX6_feed : okT 88 tX6_feed = true := by decide +kernel
theorem eX6_feed {d : Nat} {Q : Qt} {M : Mm} {L : Ml} (a0 : Nat) (a1 : Int32) (h : wpN 88 d tX6_feed Q 60 0 [some (.ref a0), some (.int a1)] [] M L) : Good d 88 [.ref a0, .int a1] M L Q :=
  good_of (x := []) (mF_pn 88 (by decide)) (mF_cn 88 (by decide)) rfl (by rw [show mL 88 = 2 by decide +kernel]; exact (show 2 ≤ 2 by decide)) rfl (by simp) (wpN_runs oX6_feed 60 0 _ _ _ _ h)
abbrev nX6_circle : Nat := 89
def kX6_circle_0 : List Instr := [.aload 0, .getstatic 193, .aload 0, .getstatic 195, .invokeinterface 78 82, .istore 1, .aload 0, .getstatic 193, .invokeinterface 77 81, .istore 2, .aload 0, .getstatic 193, .invokeinterface 76 81, .iload 1, .ifCond .eq 41, .aload 0, .iload 1, .putfield 200, .iconst (-1000100), .iload 2, .isub, .ireturn]
def kX6_circle_41 : List Instr := [.aload 0, .getstatic 194, .aload 0, .getstatic 195, .invokeinterface 14 34, .aload 0, .getstatic 196, .invokeinterface 1 1, .aload 0, .getstatic 194, .getfield 64, .ireturn]
def tX6_circle : Bt := [(0, kX6_circle_0), (41, kX6_circle_41)]
theorem tX6_circle_0 : tb tX6_circle 0 = kX6_circle_0 := rfl
theorem tX6_circle_41 : tb tX6_circle 41 = kX6_circle_41 := rfl
theorem oX6_circle : okT 89 tX6_circle = true := by decide +kernel
theorem eX6_circle {d : Nat} {Q : Qt} {M : Mm} {L : Ml} (a0 : Nat) (h : wpN 89 d tX6_circle Q 60 0 [some (.ref a0), none, none] [] M L) : Good d 89 [.ref a0] M L Q :=
  good_of (x := [none, none]) (mF_pn 89 (by decide)) (mF_cn 89 (by decide)) rfl (by rw [show mL 89 = 3 by decide +kernel]; exact (show 1 ≤ 3 by decide)) rfl (by simp) (wpN_runs oX6_circle 60 0 _ _ _ _ h)
abbrev nX6_fault : Nat := 90
def kX6_fault_0 : List Instr := [.aload 0, .getfield 200, .ireturn]
def tX6_fault : Bt := [(0, kX6_fault_0)]
theorem tX6_fault_0 : tb tX6_fault 0 = kX6_fault_0 := rfl
theorem oX6_fault : okT 90 tX6_fault = true := by decide +kernel
theorem eX6_fault {d : Nat} {Q : Qt} {M : Mm} {L : Ml} (a0 : Nat) (h : wpN 90 d tX6_fault Q 60 0 [some (.ref a0)] [] M L) : Good d 90 [.ref a0] M L Q :=
  good_of (x := []) (mF_pn 90 (by decide)) (mF_cn 90 (by decide)) rfl (by rw [show mL 90 = 1 by decide +kernel]; exact (show 1 ≤ 1 by decide)) rfl (by simp) (wpN_runs oX6_fault 60 0 _ _ _ _ h)
abbrev nX6_undo : Nat := 91
def kX6_undo_0 : List Instr := [.aload 0, .getstatic 196, .invokeinterface 0 1, .ifCond .ne 13, .iconst (-1000002), .ireturn]
def kX6_undo_13 : List Instr := [.aload 0, .getstatic 196, .aload 0, .getstatic 194, .invokeinterface 3 2, .aload 0, .getstatic 196, .invokeinterface 0 1, .ireturn]
def tX6_undo : Bt := [(0, kX6_undo_0), (13, kX6_undo_13)]
theorem tX6_undo_0 : tb tX6_undo 0 = kX6_undo_0 := rfl
theorem tX6_undo_13 : tb tX6_undo 13 = kX6_undo_13 := rfl
theorem oX6_undo : okT 91 tX6_undo = true := by decide +kernel
theorem eX6_undo {d : Nat} {Q : Qt} {M : Mm} {L : Ml} (a0 : Nat) (h : wpN 91 d tX6_undo Q 60 0 [some (.ref a0)] [] M L) : Good d 91 [.ref a0] M L Q :=
  good_of (x := []) (mF_pn 91 (by decide)) (mF_cn 91 (by decide)) rfl (by rw [show mL 91 = 1 by decide +kernel]; exact (show 1 ≤ 1 by decide)) rfl (by simp) (wpN_runs oX6_undo 60 0 _ _ _ _ h)
abbrev nX6_ticks : Nat := 92
def kX6_ticks_0 : List Instr := [.aload 0, .getstatic 194, .invokeinterface 16 33, .ifCond .eq 13, .iconst (-1000002), .ireturn]
def kX6_ticks_13 : List Instr := [.iload 1, .iconst 1, .if_icmp .lt 24, .iload 1, .iconst 24, .if_icmp .le 27, .iconst (-1000001), .ireturn]
def kX6_ticks_24 : List Instr := [.iconst (-1000001), .ireturn]
def kX6_ticks_27 : List Instr := [.aload 0, .getstatic 194, .getfield 67, .iload 1, .iadd, .iconst 999, .if_icmp .le 45, .iconst (-1000003), .ireturn]
def kX6_ticks_45 : List Instr := [.iconst 0, .istore 2, .ret 47]
def kX6_ticks_47 : List Instr := [.ret 47]
def kX6_ticks_76 : List Instr := [.aload 0, .getstatic 194, .iconst 2, .invokeinterface 21 34, .ireturn]
def hX6_ticks_47 : List Instr := [.iload 2, .iload 1, .if_icmp .ge 76, .aload 0, .getstatic 196, .aload 0, .getstatic 194, .invokeinterface 2 2, .aload 0, .getstatic 194, .invokeinterface 29 33, .iinc 2 1, .goto 47]
def tX6_ticks : Bt := [(0, kX6_ticks_0), (13, kX6_ticks_13), (24, kX6_ticks_24), (27, kX6_ticks_27), (45, kX6_ticks_45), (47, kX6_ticks_47), (76, kX6_ticks_76)]
theorem tX6_ticks_0 : tb tX6_ticks 0 = kX6_ticks_0 := rfl
theorem tX6_ticks_13 : tb tX6_ticks 13 = kX6_ticks_13 := rfl
theorem tX6_ticks_24 : tb tX6_ticks 24 = kX6_ticks_24 := rfl
theorem tX6_ticks_27 : tb tX6_ticks 27 = kX6_ticks_27 := rfl
theorem tX6_ticks_45 : tb tX6_ticks 45 = kX6_ticks_45 := rfl
theorem tX6_ticks_47 : tb tX6_ticks 47 = kX6_ticks_47 := rfl
theorem tX6_ticks_76 : tb tX6_ticks 76 = kX6_ticks_76 := rfl
theorem oX6_ticks : okT 92 tX6_ticks = true := by decide +kernel
theorem oX6_ticks_47 : okB 92 47 hX6_ticks_47 = true := by decide +kernel
theorem eX6_ticks {d : Nat} {Q : Qt} {M : Mm} {L : Ml} (a0 : Nat) (a1 : Int32) (h : wpN 92 d tX6_ticks Q 60 0 [some (.ref a0), some (.int a1), none] [] M L) : Good d 92 [.ref a0, .int a1] M L Q :=
  good_of (x := [none]) (mF_pn 92 (by decide)) (mF_cn 92 (by decide)) rfl (by rw [show mL 92 = 3 by decide +kernel]; exact (show 2 ≤ 3 by decide)) rfl (by simp) (wpN_runs oX6_ticks 60 0 _ _ _ _ h)
abbrev nX6_turnHead : Nat := 93
def kX6_turnHead_0 : List Instr := [.aload 0, .getstatic 194, .iload 1, .invokeinterface 17 34, .ifCond .eq 27, .aload 0, .getstatic 194, .iload 2, .invokeinterface 17 34, .ifCond .eq 27, .iload 2, .iload 1, .if_icmp .ne 30, .iconst (-1000001), .ireturn]
def kX6_turnHead_27 : List Instr := [.iconst (-1000001), .ireturn]
def kX6_turnHead_30 : List Instr := [.aload 0, .getstatic 194, .getstatic 73, .iload 1, .iaload, .iconst 2, .if_icmp .eq 56, .aload 0, .getstatic 194, .getstatic 71, .iload 1, .iaload, .iload 2, .if_icmp .ne 59, .iconst (-1000002), .ireturn]
def kX6_turnHead_56 : List Instr := [.iconst (-1000002), .ireturn]
def kX6_turnHead_59 : List Instr := [.aload 0, .getstatic 196, .aload 0, .getstatic 194, .invokeinterface 2 2, .aload 0, .getstatic 194, .getstatic 71, .iload 1, .iaload, .istore 3, .aload 0, .getstatic 194, .getstatic 71, .iload 1, .iload 2, .iastore, .iload 3, .ireturn]
def tX6_turnHead : Bt := [(0, kX6_turnHead_0), (27, kX6_turnHead_27), (30, kX6_turnHead_30), (56, kX6_turnHead_56), (59, kX6_turnHead_59)]
theorem tX6_turnHead_0 : tb tX6_turnHead 0 = kX6_turnHead_0 := rfl
theorem tX6_turnHead_27 : tb tX6_turnHead 27 = kX6_turnHead_27 := rfl
theorem tX6_turnHead_30 : tb tX6_turnHead 30 = kX6_turnHead_30 := rfl
theorem tX6_turnHead_56 : tb tX6_turnHead 56 = kX6_turnHead_56 := rfl
theorem tX6_turnHead_59 : tb tX6_turnHead 59 = kX6_turnHead_59 := rfl
theorem oX6_turnHead : okT 93 tX6_turnHead = true := by decide +kernel
theorem eX6_turnHead {d : Nat} {Q : Qt} {M : Mm} {L : Ml} (a0 : Nat) (a1 : Int32) (a2 : Int32) (h : wpN 93 d tX6_turnHead Q 60 0 [some (.ref a0), some (.int a1), some (.int a2), none] [] M L) : Good d 93 [.ref a0, .int a1, .int a2] M L Q :=
  good_of (x := [none]) (mF_pn 93 (by decide)) (mF_cn 93 (by decide)) rfl (by rw [show mL 93 = 4 by decide +kernel]; exact (show 3 ≤ 4 by decide)) rfl (by simp) (wpN_runs oX6_turnHead 60 0 _ _ _ _ h)
abbrev nX6_role : Nat := 94
def kX6_role_0 : List Instr := [.aload 0, .getstatic 194, .iload 1, .invokeinterface 17 34, .ifCond .ne 14, .iconst (-1000001), .ireturn]
def kX6_role_14 : List Instr := [.aload 0, .getstatic 194, .getfield 65, .iload 1, .if_icmp .ne 28, .iconst (-1000002), .ireturn]
def kX6_role_28 : List Instr := [.aload 0, .getstatic 196, .aload 0, .getstatic 194, .invokeinterface 2 2, .aload 0, .getstatic 194, .getfield 65, .istore 2, .aload 0, .getstatic 194, .iload 1, .invokeinterface 25 34, .iload 2, .ireturn]
def tX6_role : Bt := [(0, kX6_role_0), (14, kX6_role_14), (28, kX6_role_28)]
theorem tX6_role_0 : tb tX6_role 0 = kX6_role_0 := rfl
theorem tX6_role_14 : tb tX6_role 14 = kX6_role_14 := rfl
theorem tX6_role_28 : tb tX6_role 28 = kX6_role_28 := rfl
theorem oX6_role : okT 94 tX6_role = true := by decide +kernel
theorem eX6_role {d : Nat} {Q : Qt} {M : Mm} {L : Ml} (a0 : Nat) (a1 : Int32) (h : wpN 94 d tX6_role Q 60 0 [some (.ref a0), some (.int a1), none] [] M L) : Good d 94 [.ref a0, .int a1] M L Q :=
  good_of (x := [none]) (mF_pn 94 (by decide)) (mF_cn 94 (by decide)) rfl (by rw [show mL 94 = 3 by decide +kernel]; exact (show 2 ≤ 3 by decide)) rfl (by simp) (wpN_runs oX6_role 60 0 _ _ _ _ h)
abbrev nX6_proof : Nat := 95
def kX6_proof_0 : List Instr := [.aload 0, .getstatic 194, .invokeinterface 16 33, .ifCond .eq 13, .iconst (-1000002), .ireturn]
def kX6_proof_13 : List Instr := [.iload 1, .iconst 1, .if_icmp .lt 24, .iload 1, .iconst 9, .if_icmp .le 27, .iconst (-1000001), .ireturn]
def kX6_proof_24 : List Instr := [.iconst (-1000001), .ireturn]
def kX6_proof_27 : List Instr := [.aload 0, .getstatic 196, .aload 0, .getstatic 194, .invokeinterface 2 2, .aload 0, .getstatic 194, .getfield 66, .istore 2, .aload 0, .getstatic 194, .iload 1, .putfield 66, .iload 2, .ireturn]
def tX6_proof : Bt := [(0, kX6_proof_0), (13, kX6_proof_13), (24, kX6_proof_24), (27, kX6_proof_27)]
theorem tX6_proof_0 : tb tX6_proof 0 = kX6_proof_0 := rfl
theorem tX6_proof_13 : tb tX6_proof 13 = kX6_proof_13 := rfl
theorem tX6_proof_24 : tb tX6_proof 24 = kX6_proof_24 := rfl
theorem tX6_proof_27 : tb tX6_proof 27 = kX6_proof_27 := rfl
theorem oX6_proof : okT 95 tX6_proof = true := by decide +kernel
theorem eX6_proof {d : Nat} {Q : Qt} {M : Mm} {L : Ml} (a0 : Nat) (a1 : Int32) (h : wpN 95 d tX6_proof Q 60 0 [some (.ref a0), some (.int a1), none] [] M L) : Good d 95 [.ref a0, .int a1] M L Q :=
  good_of (x := [none]) (mF_pn 95 (by decide)) (mF_cn 95 (by decide)) rfl (by rw [show mL 95 = 3 by decide +kernel]; exact (show 2 ≤ 3 by decide)) rfl (by simp) (wpN_runs oX6_proof 60 0 _ _ _ _ h)
abbrev nX6_rise : Nat := 96
def kX6_rise_0 : List Instr := [.aload 0, .getstatic 194, .iload 1, .invokeinterface 17 34, .ifCond .ne 14, .iconst (-1000001), .ireturn]
def kX6_rise_14 : List Instr := [.aload 0, .getstatic 194, .getstatic 73, .iload 1, .iaload, .iconst 2, .if_icmp .eq 30, .iconst (-1000002), .ireturn]
def kX6_rise_30 : List Instr := [.aload 0, .getstatic 196, .aload 0, .getstatic 194, .invokeinterface 2 2, .aload 0, .getstatic 194, .iload 1, .invokeinterface 26 34, .aload 0, .getstatic 194, .iconst 2, .invokeinterface 21 34, .ireturn]
def tX6_rise : Bt := [(0, kX6_rise_0), (14, kX6_rise_14), (30, kX6_rise_30)]
theorem tX6_rise_0 : tb tX6_rise 0 = kX6_rise_0 := rfl
theorem tX6_rise_14 : tb tX6_rise 14 = kX6_rise_14 := rfl
theorem tX6_rise_30 : tb tX6_rise 30 = kX6_rise_30 := rfl
theorem oX6_rise : okT 96 tX6_rise = true := by decide +kernel
theorem eX6_rise {d : Nat} {Q : Qt} {M : Mm} {L : Ml} (a0 : Nat) (a1 : Int32) (h : wpN 96 d tX6_rise Q 60 0 [some (.ref a0), some (.int a1)] [] M L) : Good d 96 [.ref a0, .int a1] M L Q :=
  good_of (x := []) (mF_pn 96 (by decide)) (mF_cn 96 (by decide)) rfl (by rw [show mL 96 = 2 by decide +kernel]; exact (show 2 ≤ 2 by decide)) rfl (by simp) (wpN_runs oX6_rise 60 0 _ _ _ _ h)
abbrev nX6_player : Nat := 97
def kX6_player_0 : List Instr := [.aload 0, .getstatic 194, .iload 1, .invokeinterface 17 34, .ifCond .ne 14, .iconst (-1000001), .ireturn]
def kX6_player_14 : List Instr := [.iload 2, .lookupswitch 111 #[(0, 52), (1, 62), (2, 72), (3, 82), (4, 92), (5, 102)]]
def kX6_player_52 : List Instr := [.aload 0, .getstatic 194, .getstatic 73, .iload 1, .iaload, .ireturn]
def kX6_player_62 : List Instr := [.aload 0, .getstatic 194, .getstatic 71, .iload 1, .iaload, .ireturn]
def kX6_player_72 : List Instr := [.aload 0, .getstatic 194, .getstatic 72, .iload 1, .iaload, .ireturn]
def kX6_player_82 : List Instr := [.aload 0, .getstatic 194, .getstatic 74, .iload 1, .iaload, .ireturn]
def kX6_player_92 : List Instr := [.aload 0, .getstatic 194, .getstatic 75, .iload 1, .iaload, .ireturn]
def kX6_player_102 : List Instr := [.aload 0, .getstatic 194, .iload 1, .invokeinterface 23 34, .ireturn]
def kX6_player_111 : List Instr := [.iconst (-1000001), .ireturn]
def tX6_player : Bt := [(0, kX6_player_0), (14, kX6_player_14), (52, kX6_player_52), (62, kX6_player_62), (72, kX6_player_72), (82, kX6_player_82), (92, kX6_player_92), (102, kX6_player_102), (111, kX6_player_111)]
theorem tX6_player_0 : tb tX6_player 0 = kX6_player_0 := rfl
theorem tX6_player_14 : tb tX6_player 14 = kX6_player_14 := rfl
theorem tX6_player_52 : tb tX6_player 52 = kX6_player_52 := rfl
theorem tX6_player_62 : tb tX6_player 62 = kX6_player_62 := rfl
theorem tX6_player_72 : tb tX6_player 72 = kX6_player_72 := rfl
theorem tX6_player_82 : tb tX6_player 82 = kX6_player_82 := rfl
theorem tX6_player_92 : tb tX6_player 92 = kX6_player_92 := rfl
theorem tX6_player_102 : tb tX6_player 102 = kX6_player_102 := rfl
theorem tX6_player_111 : tb tX6_player 111 = kX6_player_111 := rfl
theorem oX6_player : okT 97 tX6_player = true := by decide +kernel
theorem eX6_player {d : Nat} {Q : Qt} {M : Mm} {L : Ml} (a0 : Nat) (a1 : Int32) (a2 : Int32) (h : wpN 97 d tX6_player Q 60 0 [some (.ref a0), some (.int a1), some (.int a2)] [] M L) : Good d 97 [.ref a0, .int a1, .int a2] M L Q :=
  good_of (x := []) (mF_pn 97 (by decide)) (mF_cn 97 (by decide)) rfl (by rw [show mL 97 = 3 by decide +kernel]; exact (show 3 ≤ 3 by decide)) rfl (by simp) (wpN_runs oX6_player 60 0 _ _ _ _ h)
abbrev nX6_stand : Nat := 98
def kX6_stand_0 : List Instr := [.aload 0, .getstatic 194, .invokeinterface 16 33, .ifCond .eq 13, .iconst (-1000002), .ireturn]
def kX6_stand_13 : List Instr := [.iload 1, .lookupswitch 123 #[(0, 56), (1, 64), (2, 72), (3, 80), (4, 96), (5, 105), (6, 114)]]
def kX6_stand_56 : List Instr := [.aload 0, .getstatic 194, .getfield 64, .ireturn]
def kX6_stand_64 : List Instr := [.aload 0, .getstatic 194, .getfield 65, .ireturn]
def kX6_stand_72 : List Instr := [.aload 0, .getstatic 194, .getfield 66, .ireturn]
def kX6_stand_80 : List Instr := [.aload 0, .getstatic 194, .getfield 68, .ifCond .eq 94, .iconst 1, .goto 95]
def kX6_stand_94 : List Instr := [.iconst 0, .ireturn]
def kX6_stand_95 : List Instr := [.ireturn]
def kX6_stand_96 : List Instr := [.aload 0, .getstatic 194, .iconst 0, .invokeinterface 21 34, .ireturn]
def kX6_stand_105 : List Instr := [.aload 0, .getstatic 194, .iconst 1, .invokeinterface 21 34, .ireturn]
def kX6_stand_114 : List Instr := [.aload 0, .getstatic 194, .iconst 2, .invokeinterface 21 34, .ireturn]
def kX6_stand_123 : List Instr := [.iconst (-1000001), .ireturn]
def tX6_stand : Bt := [(0, kX6_stand_0), (13, kX6_stand_13), (56, kX6_stand_56), (64, kX6_stand_64), (72, kX6_stand_72), (80, kX6_stand_80), (94, kX6_stand_94), (95, kX6_stand_95), (96, kX6_stand_96), (105, kX6_stand_105), (114, kX6_stand_114), (123, kX6_stand_123)]
theorem tX6_stand_0 : tb tX6_stand 0 = kX6_stand_0 := rfl
theorem tX6_stand_13 : tb tX6_stand 13 = kX6_stand_13 := rfl
theorem tX6_stand_56 : tb tX6_stand 56 = kX6_stand_56 := rfl
theorem tX6_stand_64 : tb tX6_stand 64 = kX6_stand_64 := rfl
theorem tX6_stand_72 : tb tX6_stand 72 = kX6_stand_72 := rfl
theorem tX6_stand_80 : tb tX6_stand 80 = kX6_stand_80 := rfl
theorem tX6_stand_94 : tb tX6_stand 94 = kX6_stand_94 := rfl
theorem tX6_stand_95 : tb tX6_stand 95 = kX6_stand_95 := rfl
theorem tX6_stand_96 : tb tX6_stand 96 = kX6_stand_96 := rfl
theorem tX6_stand_105 : tb tX6_stand 105 = kX6_stand_105 := rfl
theorem tX6_stand_114 : tb tX6_stand 114 = kX6_stand_114 := rfl
theorem tX6_stand_123 : tb tX6_stand 123 = kX6_stand_123 := rfl
theorem oX6_stand : okT 98 tX6_stand = true := by decide +kernel
theorem eX6_stand {d : Nat} {Q : Qt} {M : Mm} {L : Ml} (a0 : Nat) (a1 : Int32) (h : wpN 98 d tX6_stand Q 60 0 [some (.ref a0), some (.int a1)] [] M L) : Good d 98 [.ref a0, .int a1] M L Q :=
  good_of (x := []) (mF_pn 98 (by decide)) (mF_cn 98 (by decide)) rfl (by rw [show mL 98 = 2 by decide +kernel]; exact (show 2 ≤ 2 by decide)) rfl (by simp) (wpN_runs oX6_stand 60 0 _ _ _ _ h)
abbrev nX6_ahead : Nat := 99
def kX6_ahead_0 : List Instr := [.aload 0, .getstatic 194, .iload 1, .invokeinterface 17 34, .ifCond .eq 30, .iload 2, .ifCond .lt 30, .iload 2, .iconst 60, .if_icmp .gt 30, .iload 3, .ifCond .lt 30, .iload 3, .iconst 2, .if_icmp .le 33, .iconst (-1000001), .ireturn]
def kX6_ahead_30 : List Instr := [.iconst (-1000001), .ireturn]
def kX6_ahead_33 : List Instr := [.aload 0, .getstatic 198, .aload 0, .getstatic 194, .iload 2, .invokeinterface 47 67, .astore 4, .iload 3, .ifCond .ne 59, .aload 4, .getstatic 73, .iload 1, .iaload, .ireturn]
def kX6_ahead_59 : List Instr := [.iload 3, .iconst 1, .if_icmp .ne 74, .aload 4, .getstatic 71, .iload 1, .iaload, .goto 81]
def kX6_ahead_74 : List Instr := [.aload 4, .getstatic 75, .iload 1, .iaload, .ireturn]
def kX6_ahead_81 : List Instr := [.ireturn]
def tX6_ahead : Bt := [(0, kX6_ahead_0), (30, kX6_ahead_30), (33, kX6_ahead_33), (59, kX6_ahead_59), (74, kX6_ahead_74), (81, kX6_ahead_81)]
theorem tX6_ahead_0 : tb tX6_ahead 0 = kX6_ahead_0 := rfl
theorem tX6_ahead_30 : tb tX6_ahead 30 = kX6_ahead_30 := rfl
theorem tX6_ahead_33 : tb tX6_ahead 33 = kX6_ahead_33 := rfl
theorem tX6_ahead_59 : tb tX6_ahead 59 = kX6_ahead_59 := rfl
theorem tX6_ahead_74 : tb tX6_ahead 74 = kX6_ahead_74 := rfl
theorem tX6_ahead_81 : tb tX6_ahead 81 = kX6_ahead_81 := rfl
theorem oX6_ahead : okT 99 tX6_ahead = true := by decide +kernel
theorem eX6_ahead {d : Nat} {Q : Qt} {M : Mm} {L : Ml} (a0 : Nat) (a1 : Int32) (a2 : Int32) (a3 : Int32) (h : wpN 99 d tX6_ahead Q 60 0 [some (.ref a0), some (.int a1), some (.int a2), some (.int a3), none] [] M L) : Good d 99 [.ref a0, .int a1, .int a2, .int a3] M L Q :=
  good_of (x := [none]) (mF_pn 99 (by decide)) (mF_cn 99 (by decide)) rfl (by rw [show mL 99 = 5 by decide +kernel]; exact (show 4 ≤ 5 by decide)) rfl (by simp) (wpN_runs oX6_ahead 60 0 _ _ _ _ h)
abbrev nX6_toll : Nat := 100
def kX6_toll_0 : List Instr := [.aload 0, .getstatic 194, .invokeinterface 16 33, .ifCond .eq 13, .iconst (-1000002), .ireturn]
def kX6_toll_13 : List Instr := [.iload 1, .ifCond .lt 30, .iload 1, .iconst 60, .if_icmp .gt 30, .iload 2, .multianewarray 125 1, .ifCond .ne 33, .iconst (-1000001), .ireturn]
def kX6_toll_30 : List Instr := [.iconst (-1000001), .ireturn]
def kX6_toll_33 : List Instr := [.aload 0, .getstatic 198, .aload 0, .getstatic 194, .iload 1, .invokeinterface 47 67, .astore 3, .iload 2, .ifCond .ne 56, .aload 3, .iconst 2, .invokeinterface 21 34, .ireturn]
def kX6_toll_56 : List Instr := [.aload 3, .getfield 68, .ifCond .eq 67, .iconst 1, .goto 68]
def kX6_toll_67 : List Instr := [.iconst 0, .ireturn]
def kX6_toll_68 : List Instr := [.ireturn]
def tX6_toll : Bt := [(0, kX6_toll_0), (13, kX6_toll_13), (30, kX6_toll_30), (33, kX6_toll_33), (56, kX6_toll_56), (67, kX6_toll_67), (68, kX6_toll_68)]
theorem tX6_toll_0 : tb tX6_toll 0 = kX6_toll_0 := rfl
theorem tX6_toll_13 : tb tX6_toll 13 = kX6_toll_13 := rfl
theorem tX6_toll_30 : tb tX6_toll 30 = kX6_toll_30 := rfl
theorem tX6_toll_33 : tb tX6_toll 33 = kX6_toll_33 := rfl
theorem tX6_toll_56 : tb tX6_toll 56 = kX6_toll_56 := rfl
theorem tX6_toll_67 : tb tX6_toll 67 = kX6_toll_67 := rfl
theorem tX6_toll_68 : tb tX6_toll 68 = kX6_toll_68 := rfl
theorem oX6_toll : okT 100 tX6_toll = true := by decide +kernel
theorem eX6_toll {d : Nat} {Q : Qt} {M : Mm} {L : Ml} (a0 : Nat) (a1 : Int32) (a2 : Int32) (h : wpN 100 d tX6_toll Q 60 0 [some (.ref a0), some (.int a1), some (.int a2), none] [] M L) : Good d 100 [.ref a0, .int a1, .int a2] M L Q :=
  good_of (x := [none]) (mF_pn 100 (by decide)) (mF_cn 100 (by decide)) rfl (by rw [show mL 100 = 4 by decide +kernel]; exact (show 3 ≤ 4 by decide)) rfl (by simp) (wpN_runs oX6_toll 60 0 _ _ _ _ h)
abbrev nX6_when : Nat := 101
def kX6_when_0 : List Instr := [.aload 0, .getstatic 194, .iload 1, .invokeinterface 17 34, .ifCond .eq 21, .iload 2, .iconst 1, .if_icmp .lt 21, .iload 2, .iconst 2, .if_icmp .le 24, .iconst (-1000001), .ireturn]
def kX6_when_21 : List Instr := [.iconst (-1000001), .ireturn]
def kX6_when_24 : List Instr := [.aload 0, .getstatic 198, .aload 0, .getstatic 194, .iload 1, .iload 2, .invokeinterface 48 68, .ireturn]
def tX6_when : Bt := [(0, kX6_when_0), (21, kX6_when_21), (24, kX6_when_24)]
theorem tX6_when_0 : tb tX6_when 0 = kX6_when_0 := rfl
theorem tX6_when_21 : tb tX6_when 21 = kX6_when_21 := rfl
theorem tX6_when_24 : tb tX6_when 24 = kX6_when_24 := rfl
theorem oX6_when : okT 101 tX6_when = true := by decide +kernel
theorem eX6_when {d : Nat} {Q : Qt} {M : Mm} {L : Ml} (a0 : Nat) (a1 : Int32) (a2 : Int32) (h : wpN 101 d tX6_when Q 60 0 [some (.ref a0), some (.int a1), some (.int a2)] [] M L) : Good d 101 [.ref a0, .int a1, .int a2] M L Q :=
  good_of (x := []) (mF_pn 101 (by decide)) (mF_cn 101 (by decide)) rfl (by rw [show mL 101 = 3 by decide +kernel]; exact (show 3 ≤ 3 by decide)) rfl (by simp) (wpN_runs oX6_when 60 0 _ _ _ _ h)
abbrev nX6_out : Nat := 102
def kX6_out_0 : List Instr := [.aload 0, .getstatic 194, .invokeinterface 16 33, .ifCond .eq 13, .iconst (-1000002), .ireturn]
def kX6_out_13 : List Instr := [.aload 0, .getstatic 198, .aload 0, .getstatic 194, .invokeinterface 49 66, .ireturn]
def tX6_out : Bt := [(0, kX6_out_0), (13, kX6_out_13)]
theorem tX6_out_0 : tb tX6_out 0 = kX6_out_0 := rfl
theorem tX6_out_13 : tb tX6_out 13 = kX6_out_13 := rfl
theorem oX6_out : okT 102 tX6_out = true := by decide +kernel
theorem eX6_out {d : Nat} {Q : Qt} {M : Mm} {L : Ml} (a0 : Nat) (h : wpN 102 d tX6_out Q 60 0 [some (.ref a0)] [] M L) : Good d 102 [.ref a0] M L Q :=
  good_of (x := []) (mF_pn 102 (by decide)) (mF_cn 102 (by decide)) rfl (by rw [show mL 102 = 1 by decide +kernel]; exact (show 1 ≤ 1 by decide)) rfl (by simp) (wpN_runs oX6_out 60 0 _ _ _ _ h)
abbrev nX6_meet : Nat := 103
def kX6_meet_0 : List Instr := [.aload 0, .getstatic 194, .iload 1, .invokeinterface 17 34, .ifCond .eq 27, .aload 0, .getstatic 194, .iload 2, .invokeinterface 17 34, .ifCond .eq 27, .iload 1, .iload 2, .if_icmp .ne 30, .iconst (-1000001), .ireturn]
def kX6_meet_27 : List Instr := [.iconst (-1000001), .ireturn]
def kX6_meet_30 : List Instr := [.aload 0, .getstatic 198, .aload 0, .getstatic 194, .iload 1, .iload 2, .invokeinterface 50 68, .ireturn]
def tX6_meet : Bt := [(0, kX6_meet_0), (27, kX6_meet_27), (30, kX6_meet_30)]
theorem tX6_meet_0 : tb tX6_meet 0 = kX6_meet_0 := rfl
theorem tX6_meet_27 : tb tX6_meet 27 = kX6_meet_27 := rfl
theorem tX6_meet_30 : tb tX6_meet 30 = kX6_meet_30 := rfl
theorem oX6_meet : okT 103 tX6_meet = true := by decide +kernel
theorem eX6_meet {d : Nat} {Q : Qt} {M : Mm} {L : Ml} (a0 : Nat) (a1 : Int32) (a2 : Int32) (h : wpN 103 d tX6_meet Q 60 0 [some (.ref a0), some (.int a1), some (.int a2)] [] M L) : Good d 103 [.ref a0, .int a1, .int a2] M L Q :=
  good_of (x := []) (mF_pn 103 (by decide)) (mF_cn 103 (by decide)) rfl (by rw [show mL 103 = 3 by decide +kernel]; exact (show 3 ≤ 3 by decide)) rfl (by simp) (wpN_runs oX6_meet 60 0 _ _ _ _ h)
abbrev nX6_bestRole : Nat := 104
def kX6_bestRole_0 : List Instr := [.aload 0, .getstatic 194, .invokeinterface 16 33, .ifCond .eq 13, .iconst (-1000002), .ireturn]
def kX6_bestRole_13 : List Instr := [.iload 1, .iconst 1, .if_icmp .lt 31, .iload 1, .iconst 40, .if_icmp .gt 31, .iload 2, .multianewarray 125 1, .ifCond .ne 34, .iconst (-1000001), .ireturn]
def kX6_bestRole_31 : List Instr := [.iconst (-1000001), .ireturn]
def kX6_bestRole_34 : List Instr := [.aload 0, .getstatic 198, .aload 0, .getstatic 194, .iload 1, .invokeinterface 51 67, .iload 2, .ifCond .ne 60, .aload 0, .getstatic 198, .getfield 132, .goto 67]
def kX6_bestRole_60 : List Instr := [.aload 0, .getstatic 198, .getfield 133, .ireturn]
def kX6_bestRole_67 : List Instr := [.ireturn]
def tX6_bestRole : Bt := [(0, kX6_bestRole_0), (13, kX6_bestRole_13), (31, kX6_bestRole_31), (34, kX6_bestRole_34), (60, kX6_bestRole_60), (67, kX6_bestRole_67)]
theorem tX6_bestRole_0 : tb tX6_bestRole 0 = kX6_bestRole_0 := rfl
theorem tX6_bestRole_13 : tb tX6_bestRole 13 = kX6_bestRole_13 := rfl
theorem tX6_bestRole_31 : tb tX6_bestRole 31 = kX6_bestRole_31 := rfl
theorem tX6_bestRole_34 : tb tX6_bestRole 34 = kX6_bestRole_34 := rfl
theorem tX6_bestRole_60 : tb tX6_bestRole 60 = kX6_bestRole_60 := rfl
theorem tX6_bestRole_67 : tb tX6_bestRole 67 = kX6_bestRole_67 := rfl
theorem oX6_bestRole : okT 104 tX6_bestRole = true := by decide +kernel
theorem eX6_bestRole {d : Nat} {Q : Qt} {M : Mm} {L : Ml} (a0 : Nat) (a1 : Int32) (a2 : Int32) (h : wpN 104 d tX6_bestRole Q 60 0 [some (.ref a0), some (.int a1), some (.int a2)] [] M L) : Good d 104 [.ref a0, .int a1, .int a2] M L Q :=
  good_of (x := []) (mF_pn 104 (by decide)) (mF_cn 104 (by decide)) rfl (by rw [show mL 104 = 3 by decide +kernel]; exact (show 3 ≤ 3 by decide)) rfl (by simp) (wpN_runs oX6_bestRole 60 0 _ _ _ _ h)
abbrev nX6_glance : Nat := 105
def kX6_glance_0 : List Instr := [.aload 0, .getstatic 194, .invokeinterface 16 33, .ifCond .eq 13, .iconst (-1000002), .ireturn]
def kX6_glance_13 : List Instr := [.iload 1, .iconst 1, .if_icmp .lt 31, .iload 1, .iconst 40, .if_icmp .gt 31, .iload 2, .multianewarray 125 1, .ifCond .ne 34, .iconst (-1000001), .ireturn]
def kX6_glance_31 : List Instr := [.iconst (-1000001), .ireturn]
def kX6_glance_34 : List Instr := [.aload 0, .getstatic 194, .aload 0, .getstatic 194, .getfield 65, .invokeinterface 18 34, .ifCond .eq 54, .iconst (-1000000), .ireturn]
def kX6_glance_54 : List Instr := [.aload 0, .getstatic 198, .aload 0, .getstatic 194, .iload 1, .invokeinterface 53 67, .iload 2, .ifCond .ne 80, .aload 0, .getstatic 198, .getfield 132, .goto 87]
def kX6_glance_80 : List Instr := [.aload 0, .getstatic 198, .getfield 133, .ireturn]
def kX6_glance_87 : List Instr := [.ireturn]
def tX6_glance : Bt := [(0, kX6_glance_0), (13, kX6_glance_13), (31, kX6_glance_31), (34, kX6_glance_34), (54, kX6_glance_54), (80, kX6_glance_80), (87, kX6_glance_87)]
theorem tX6_glance_0 : tb tX6_glance 0 = kX6_glance_0 := rfl
theorem tX6_glance_13 : tb tX6_glance 13 = kX6_glance_13 := rfl
theorem tX6_glance_31 : tb tX6_glance 31 = kX6_glance_31 := rfl
theorem tX6_glance_34 : tb tX6_glance 34 = kX6_glance_34 := rfl
theorem tX6_glance_54 : tb tX6_glance 54 = kX6_glance_54 := rfl
theorem tX6_glance_80 : tb tX6_glance 80 = kX6_glance_80 := rfl
theorem tX6_glance_87 : tb tX6_glance 87 = kX6_glance_87 := rfl
theorem oX6_glance : okT 105 tX6_glance = true := by decide +kernel
theorem eX6_glance {d : Nat} {Q : Qt} {M : Mm} {L : Ml} (a0 : Nat) (a1 : Int32) (a2 : Int32) (h : wpN 105 d tX6_glance Q 60 0 [some (.ref a0), some (.int a1), some (.int a2)] [] M L) : Good d 105 [.ref a0, .int a1, .int a2] M L Q :=
  good_of (x := []) (mF_pn 105 (by decide)) (mF_cn 105 (by decide)) rfl (by rw [show mL 105 = 3 by decide +kernel]; exact (show 3 ≤ 3 by decide)) rfl (by simp) (wpN_runs oX6_glance 60 0 _ _ _ _ h)
abbrev nX6_pass : Nat := 106
def kX6_pass_0 : List Instr := [.aload 0, .getstatic 194, .invokeinterface 16 33, .ifCond .eq 13, .iconst (-1000002), .ireturn]
def kX6_pass_13 : List Instr := [.iload 1, .iconst 1, .if_icmp .lt 24, .iload 1, .iconst 40, .if_icmp .le 27, .iconst (-1000001), .ireturn]
def kX6_pass_24 : List Instr := [.iconst (-1000001), .ireturn]
def kX6_pass_27 : List Instr := [.aload 0, .getstatic 198, .aload 0, .getstatic 194, .iload 1, .invokeinterface 55 67, .ireturn]
def tX6_pass : Bt := [(0, kX6_pass_0), (13, kX6_pass_13), (24, kX6_pass_24), (27, kX6_pass_27)]
theorem tX6_pass_0 : tb tX6_pass 0 = kX6_pass_0 := rfl
theorem tX6_pass_13 : tb tX6_pass 13 = kX6_pass_13 := rfl
theorem tX6_pass_24 : tb tX6_pass 24 = kX6_pass_24 := rfl
theorem tX6_pass_27 : tb tX6_pass 27 = kX6_pass_27 := rfl
theorem oX6_pass : okT 106 tX6_pass = true := by decide +kernel
theorem eX6_pass {d : Nat} {Q : Qt} {M : Mm} {L : Ml} (a0 : Nat) (a1 : Int32) (h : wpN 106 d tX6_pass Q 60 0 [some (.ref a0), some (.int a1)] [] M L) : Good d 106 [.ref a0, .int a1] M L Q :=
  good_of (x := []) (mF_pn 106 (by decide)) (mF_cn 106 (by decide)) rfl (by rw [show mL 106 = 2 by decide +kernel]; exact (show 2 ≤ 2 by decide)) rfl (by simp) (wpN_runs oX6_pass 60 0 _ _ _ _ h)
abbrev nX6_sets : Nat := 107
def kX6_sets_0 : List Instr := [.aload 0, .getstatic 194, .invokeinterface 16 33, .ifCond .eq 13, .iconst (-1000002), .ireturn]
def kX6_sets_13 : List Instr := [.iload 1, .ifCond .lt 32, .iload 1, .iconst 99, .if_icmp .gt 32, .iload 2, .ifCond .lt 32, .iload 2, .iconst 2, .if_icmp .le 35, .iconst (-1000001), .ireturn]
def kX6_sets_32 : List Instr := [.iconst (-1000001), .ireturn]
def kX6_sets_35 : List Instr := [.aload 0, .getstatic 198, .aload 0, .getstatic 194, .iload 1, .iload 2, .invokeinterface 56 68, .ireturn]
def tX6_sets : Bt := [(0, kX6_sets_0), (13, kX6_sets_13), (32, kX6_sets_32), (35, kX6_sets_35)]
theorem tX6_sets_0 : tb tX6_sets 0 = kX6_sets_0 := rfl
theorem tX6_sets_13 : tb tX6_sets 13 = kX6_sets_13 := rfl
theorem tX6_sets_32 : tb tX6_sets 32 = kX6_sets_32 := rfl
theorem tX6_sets_35 : tb tX6_sets 35 = kX6_sets_35 := rfl
theorem oX6_sets : okT 107 tX6_sets = true := by decide +kernel
theorem eX6_sets {d : Nat} {Q : Qt} {M : Mm} {L : Ml} (a0 : Nat) (a1 : Int32) (a2 : Int32) (h : wpN 107 d tX6_sets Q 60 0 [some (.ref a0), some (.int a1), some (.int a2)] [] M L) : Good d 107 [.ref a0, .int a1, .int a2] M L Q :=
  good_of (x := []) (mF_pn 107 (by decide)) (mF_cn 107 (by decide)) rfl (by rw [show mL 107 = 3 by decide +kernel]; exact (show 3 ≤ 3 by decide)) rfl (by simp) (wpN_runs oX6_sets 60 0 _ _ _ _ h)
abbrev nX6_share : Nat := 108
def kX6_share_0 : List Instr := [.aload 0, .getstatic 194, .iload 1, .invokeinterface 17 34, .ifCond .eq 22, .iload 2, .ifCond .lt 22, .iload 2, .iconst 999, .if_icmp .le 25, .iconst (-1000001), .ireturn]
def kX6_share_22 : List Instr := [.iconst (-1000001), .ireturn]
def kX6_share_25 : List Instr := [.aload 0, .getstatic 198, .aload 0, .getstatic 194, .iload 1, .iload 2, .invokeinterface 58 68, .ireturn]
def tX6_share : Bt := [(0, kX6_share_0), (22, kX6_share_22), (25, kX6_share_25)]
theorem tX6_share_0 : tb tX6_share 0 = kX6_share_0 := rfl
theorem tX6_share_22 : tb tX6_share 22 = kX6_share_22 := rfl
theorem tX6_share_25 : tb tX6_share 25 = kX6_share_25 := rfl
theorem oX6_share : okT 108 tX6_share = true := by decide +kernel
theorem eX6_share {d : Nat} {Q : Qt} {M : Mm} {L : Ml} (a0 : Nat) (a1 : Int32) (a2 : Int32) (h : wpN 108 d tX6_share Q 60 0 [some (.ref a0), some (.int a1), some (.int a2)] [] M L) : Good d 108 [.ref a0, .int a1, .int a2] M L Q :=
  good_of (x := []) (mF_pn 108 (by decide)) (mF_cn 108 (by decide)) rfl (by rw [show mL 108 = 3 by decide +kernel]; exact (show 3 ≤ 3 by decide)) rfl (by simp) (wpN_runs oX6_share 60 0 _ _ _ _ h)
abbrev nX6_byTurns : Nat := 109
def kX6_byTurns_0 : List Instr := [.aload 0, .getstatic 194, .invokeinterface 16 33, .ifCond .eq 13, .iconst (-1000002), .ireturn]
def kX6_byTurns_13 : List Instr := [.iload 1, .ifCond .lt 33, .iload 1, .iconst 3, .if_icmp .gt 33, .iload 2, .iconst 1, .if_icmp .lt 33, .iload 2, .iconst 20, .if_icmp .le 36, .iconst (-1000001), .ireturn]
def kX6_byTurns_33 : List Instr := [.iconst (-1000001), .ireturn]
def kX6_byTurns_36 : List Instr := [.aload 0, .getstatic 198, .aload 0, .getstatic 194, .iload 1, .iload 2, .invokeinterface 59 68, .ireturn]
def tX6_byTurns : Bt := [(0, kX6_byTurns_0), (13, kX6_byTurns_13), (33, kX6_byTurns_33), (36, kX6_byTurns_36)]
theorem tX6_byTurns_0 : tb tX6_byTurns 0 = kX6_byTurns_0 := rfl
theorem tX6_byTurns_13 : tb tX6_byTurns 13 = kX6_byTurns_13 := rfl
theorem tX6_byTurns_33 : tb tX6_byTurns 33 = kX6_byTurns_33 := rfl
theorem tX6_byTurns_36 : tb tX6_byTurns 36 = kX6_byTurns_36 := rfl
theorem oX6_byTurns : okT 109 tX6_byTurns = true := by decide +kernel
theorem eX6_byTurns {d : Nat} {Q : Qt} {M : Mm} {L : Ml} (a0 : Nat) (a1 : Int32) (a2 : Int32) (h : wpN 109 d tX6_byTurns Q 60 0 [some (.ref a0), some (.int a1), some (.int a2)] [] M L) : Good d 109 [.ref a0, .int a1, .int a2] M L Q :=
  good_of (x := []) (mF_pn 109 (by decide)) (mF_cn 109 (by decide)) rfl (by rw [show mL 109 = 3 by decide +kernel]; exact (show 3 ≤ 3 by decide)) rfl (by simp) (wpN_runs oX6_byTurns 60 0 _ _ _ _ h)
abbrev nX6_who : Nat := 110
def kX6_who_0 : List Instr := [.aload 0, .getstatic 194, .iload 1, .invokeinterface 17 34, .ifCond .eq 40, .iload 2, .ifCond .lt 40, .iload 2, .iconst 3, .if_icmp .gt 40, .iload 3, .multianewarray 123 1, .ifCond .eq 40, .iload 5, .iconst 1, .if_icmp .lt 40, .iload 5, .iconst 12, .if_icmp .le 43, .iconst (-1000001), .ireturn]
def kX6_who_40 : List Instr := [.iconst (-1000001), .ireturn]
def kX6_who_43 : List Instr := [.iload 2, .iconst 2, .if_icmp .ne 64, .aload 0, .getstatic 194, .getstatic 73, .iload 1, .iaload, .iconst 2, .if_icmp .ne 64, .iconst (-1000002), .ireturn]
def kX6_who_64 : List Instr := [.aload 0, .getstatic 192, .iload 3, .iload 4, .iload 5, .invokeinterface 44 52, .istore 6, .iload 6, .ifCond .eq 90, .aload 0, .iload 6, .invokeinterface 121 98, .ireturn]
def kX6_who_90 : List Instr := [.aload 0, .getstatic 198, .aload 0, .getstatic 192, .iload 3, .iload 4, .iload 5, .invokeinterface 61 69, .iload 2, .lookupswitch 182 #[(0, 132), (1, 148), (2, 165)]]
def kX6_who_132 : List Instr := [.aload 0, .aload 0, .getstatic 198, .aload 0, .getstatic 194, .invokeinterface 63 66, .invokeinterface 122 98, .ireturn]
def kX6_who_148 : List Instr := [.aload 0, .aload 0, .getstatic 198, .aload 0, .getstatic 194, .iload 1, .invokeinterface 64 67, .invokeinterface 122 98, .ireturn]
def kX6_who_165 : List Instr := [.aload 0, .aload 0, .getstatic 198, .aload 0, .getstatic 194, .iload 1, .invokeinterface 65 67, .invokeinterface 122 98, .ireturn]
def kX6_who_182 : List Instr := [.aload 0, .aload 0, .getstatic 198, .aload 0, .getstatic 194, .iload 1, .invokeinterface 66 67, .invokeinterface 122 98, .ireturn]
def tX6_who : Bt := [(0, kX6_who_0), (40, kX6_who_40), (43, kX6_who_43), (64, kX6_who_64), (90, kX6_who_90), (132, kX6_who_132), (148, kX6_who_148), (165, kX6_who_165), (182, kX6_who_182)]
theorem tX6_who_0 : tb tX6_who 0 = kX6_who_0 := rfl
theorem tX6_who_40 : tb tX6_who 40 = kX6_who_40 := rfl
theorem tX6_who_43 : tb tX6_who 43 = kX6_who_43 := rfl
theorem tX6_who_64 : tb tX6_who 64 = kX6_who_64 := rfl
theorem tX6_who_90 : tb tX6_who 90 = kX6_who_90 := rfl
theorem tX6_who_132 : tb tX6_who 132 = kX6_who_132 := rfl
theorem tX6_who_148 : tb tX6_who 148 = kX6_who_148 := rfl
theorem tX6_who_165 : tb tX6_who 165 = kX6_who_165 := rfl
theorem tX6_who_182 : tb tX6_who 182 = kX6_who_182 := rfl
theorem oX6_who : okT 110 tX6_who = true := by decide +kernel
theorem eX6_who {d : Nat} {Q : Qt} {M : Mm} {L : Ml} (a0 : Nat) (a1 : Int32) (a2 : Int32) (a3 : Int32) (a4 : Int32) (a5 : Int32) (h : wpN 110 d tX6_who Q 60 0 [some (.ref a0), some (.int a1), some (.int a2), some (.int a3), some (.int a4), some (.int a5), none] [] M L) : Good d 110 [.ref a0, .int a1, .int a2, .int a3, .int a4, .int a5] M L Q :=
  good_of (x := [none]) (mF_pn 110 (by decide)) (mF_cn 110 (by decide)) rfl (by rw [show mL 110 = 7 by decide +kernel]; exact (show 6 ≤ 7 by decide)) rfl (by simp) (wpN_runs oX6_who 60 0 _ _ _ _ h)
abbrev nX6_sleep : Nat := 111
def kX6_sleep_0 : List Instr := [.aload 0, .getstatic 194, .invokeinterface 16 33, .ifCond .eq 14, .jsr (-1000002), .lreturn]
def kX6_sleep_14 : List Instr := [.iload 1, .ifCond .lt 41, .iload 1, .iconst 60, .if_icmp .gt 41, .iload 2, .ifCond .lt 41, .iload 2, .iconst 10, .if_icmp .gt 41, .iload 3, .multianewarray 125 1, .ifCond .ne 45, .jsr (-1000001), .lreturn]
def kX6_sleep_41 : List Instr := [.jsr (-1000001), .lreturn]
def kX6_sleep_45 : List Instr := [.aload 0, .getstatic 198, .aload 0, .getstatic 194, .iload 1, .iload 2, .invokeinterface 67 68, .iload 3, .ifCond .ne 72, .aload 0, .getstatic 198, .instanceof 8, .goto 79]
def kX6_sleep_72 : List Instr := [.aload 0, .getstatic 198, .instanceof 9, .lreturn]
def kX6_sleep_79 : List Instr := [.lreturn]
def tX6_sleep : Bt := [(0, kX6_sleep_0), (14, kX6_sleep_14), (41, kX6_sleep_41), (45, kX6_sleep_45), (72, kX6_sleep_72), (79, kX6_sleep_79)]
theorem tX6_sleep_0 : tb tX6_sleep 0 = kX6_sleep_0 := rfl
theorem tX6_sleep_14 : tb tX6_sleep 14 = kX6_sleep_14 := rfl
theorem tX6_sleep_41 : tb tX6_sleep 41 = kX6_sleep_41 := rfl
theorem tX6_sleep_45 : tb tX6_sleep 45 = kX6_sleep_45 := rfl
theorem tX6_sleep_72 : tb tX6_sleep 72 = kX6_sleep_72 := rfl
theorem tX6_sleep_79 : tb tX6_sleep 79 = kX6_sleep_79 := rfl
theorem oX6_sleep : okT 111 tX6_sleep = true := by decide +kernel
theorem eX6_sleep {d : Nat} {Q : Qt} {M : Mm} {L : Ml} (a0 : Nat) (a1 : Int32) (a2 : Int32) (a3 : Int32) (h : wpN 111 d tX6_sleep Q 60 0 [some (.ref a0), some (.int a1), some (.int a2), some (.int a3)] [] M L) : Good d 111 [.ref a0, .int a1, .int a2, .int a3] M L Q :=
  good_of (x := []) (mF_pn 111 (by decide)) (mF_cn 111 (by decide)) rfl (by rw [show mL 111 = 4 by decide +kernel]; exact (show 4 ≤ 4 by decide)) rfl (by simp) (wpN_runs oX6_sleep 60 0 _ _ _ _ h)
abbrev nX6_drawn : Nat := 112
def kX6_drawn_0 : List Instr := [.aload 0, .getstatic 194, .invokeinterface 16 33, .ifCond .eq 13, .iconst (-1000002), .ireturn]
def kX6_drawn_13 : List Instr := [.iload 1, .ifCond .lt 42, .iload 1, .iconst 60, .if_icmp .gt 42, .iload 2, .iconst 1, .if_icmp .lt 42, .iload 2, .iconst 999999, .if_icmp .gt 42, .iload 3, .multianewarray 125 1, .ifCond .ne 45, .iconst (-1000001), .ireturn]
def kX6_drawn_42 : List Instr := [.iconst (-1000001), .ireturn]
def kX6_drawn_45 : List Instr := [.aload 0, .getstatic 198, .aload 0, .getstatic 194, .iload 1, .iload 2, .invokeinterface 71 68, .iload 3, .ifCond .ne 72, .aload 0, .getstatic 198, .getfield 134, .goto 79]
def kX6_drawn_72 : List Instr := [.aload 0, .getstatic 198, .getfield 135, .ireturn]
def kX6_drawn_79 : List Instr := [.ireturn]
def tX6_drawn : Bt := [(0, kX6_drawn_0), (13, kX6_drawn_13), (42, kX6_drawn_42), (45, kX6_drawn_45), (72, kX6_drawn_72), (79, kX6_drawn_79)]
theorem tX6_drawn_0 : tb tX6_drawn 0 = kX6_drawn_0 := rfl
theorem tX6_drawn_13 : tb tX6_drawn 13 = kX6_drawn_13 := rfl
theorem tX6_drawn_42 : tb tX6_drawn 42 = kX6_drawn_42 := rfl
theorem tX6_drawn_45 : tb tX6_drawn 45 = kX6_drawn_45 := rfl
theorem tX6_drawn_72 : tb tX6_drawn 72 = kX6_drawn_72 := rfl
theorem tX6_drawn_79 : tb tX6_drawn 79 = kX6_drawn_79 := rfl
theorem oX6_drawn : okT 112 tX6_drawn = true := by decide +kernel
theorem eX6_drawn {d : Nat} {Q : Qt} {M : Mm} {L : Ml} (a0 : Nat) (a1 : Int32) (a2 : Int32) (a3 : Int32) (h : wpN 112 d tX6_drawn Q 60 0 [some (.ref a0), some (.int a1), some (.int a2), some (.int a3)] [] M L) : Good d 112 [.ref a0, .int a1, .int a2, .int a3] M L Q :=
  good_of (x := []) (mF_pn 112 (by decide)) (mF_cn 112 (by decide)) rfl (by rw [show mL 112 = 4 by decide +kernel]; exact (show 4 ≤ 4 by decide)) rfl (by simp) (wpN_runs oX6_drawn 60 0 _ _ _ _ h)
abbrev nX6_image : Nat := 113
def kX6_image_0 : List Instr := [.iload 1, .multianewarray 124 1, .ifCond .ne 10, .iconst (-1000001), .ireturn]
def kX6_image_10 : List Instr := [.aload 0, .getstatic 194, .invokeinterface 16 33, .ifCond .eq 23, .iconst (-1000002), .ireturn]
def kX6_image_23 : List Instr := [.aload 0, .getstatic 197, .iload 1, .aaload, .aload 0, .getstatic 194, .invokeinterface 14 34, .iconst 1, .ireturn]
def tX6_image : Bt := [(0, kX6_image_0), (10, kX6_image_10), (23, kX6_image_23)]
theorem tX6_image_0 : tb tX6_image 0 = kX6_image_0 := rfl
theorem tX6_image_10 : tb tX6_image 10 = kX6_image_10 := rfl
theorem tX6_image_23 : tb tX6_image 23 = kX6_image_23 := rfl
theorem oX6_image : okT 113 tX6_image = true := by decide +kernel
theorem eX6_image {d : Nat} {Q : Qt} {M : Mm} {L : Ml} (a0 : Nat) (a1 : Int32) (h : wpN 113 d tX6_image Q 60 0 [some (.ref a0), some (.int a1)] [] M L) : Good d 113 [.ref a0, .int a1] M L Q :=
  good_of (x := []) (mF_pn 113 (by decide)) (mF_cn 113 (by decide)) rfl (by rw [show mL 113 = 2 by decide +kernel]; exact (show 2 ≤ 2 by decide)) rfl (by simp) (wpN_runs oX6_image 60 0 _ _ _ _ h)
abbrev nX6_restore : Nat := 114
def kX6_restore_0 : List Instr := [.iload 1, .multianewarray 124 1, .ifCond .ne 10, .iconst (-1000001), .ireturn]
def kX6_restore_10 : List Instr := [.aload 0, .getstatic 197, .iload 1, .aaload, .invokeinterface 16 33, .ifCond .eq 25, .iconst (-1000002), .ireturn]
def kX6_restore_25 : List Instr := [.aload 0, .getstatic 194, .aload 0, .getstatic 197, .iload 1, .aaload, .invokeinterface 14 34, .aload 0, .getstatic 196, .invokeinterface 1 1, .iconst 1, .ireturn]
def tX6_restore : Bt := [(0, kX6_restore_0), (10, kX6_restore_10), (25, kX6_restore_25)]
theorem tX6_restore_0 : tb tX6_restore 0 = kX6_restore_0 := rfl
theorem tX6_restore_10 : tb tX6_restore 10 = kX6_restore_10 := rfl
theorem tX6_restore_25 : tb tX6_restore 25 = kX6_restore_25 := rfl
theorem oX6_restore : okT 114 tX6_restore = true := by decide +kernel
theorem eX6_restore {d : Nat} {Q : Qt} {M : Mm} {L : Ml} (a0 : Nat) (a1 : Int32) (h : wpN 114 d tX6_restore Q 60 0 [some (.ref a0), some (.int a1)] [] M L) : Good d 114 [.ref a0, .int a1] M L Q :=
  good_of (x := []) (mF_pn 114 (by decide)) (mF_cn 114 (by decide)) rfl (by rw [show mL 114 = 2 by decide +kernel]; exact (show 2 ≤ 2 by decide)) rfl (by simp) (wpN_runs oX6_restore 60 0 _ _ _ _ h)
abbrev nX6_kind : Nat := 115
def kX6_kind_0 : List Instr := [.aload 0, .getstatic 194, .iload 1, .invokeinterface 17 34, .ifCond .ne 14, .iconst (-1000001), .ireturn]
def kX6_kind_14 : List Instr := [.aload 0, .getstatic 194, .getstatic 70, .iload 1, .iaload, .ireturn]
def tX6_kind : Bt := [(0, kX6_kind_0), (14, kX6_kind_14)]
theorem tX6_kind_0 : tb tX6_kind 0 = kX6_kind_0 := rfl
theorem tX6_kind_14 : tb tX6_kind 14 = kX6_kind_14 := rfl
theorem oX6_kind : okT 115 tX6_kind = true := by decide +kernel
theorem eX6_kind {d : Nat} {Q : Qt} {M : Mm} {L : Ml} (a0 : Nat) (a1 : Int32) (h : wpN 115 d tX6_kind Q 60 0 [some (.ref a0), some (.int a1)] [] M L) : Good d 115 [.ref a0, .int a1] M L Q :=
  good_of (x := []) (mF_pn 115 (by decide)) (mF_cn 115 (by decide)) rfl (by rw [show mL 115 = 2 by decide +kernel]; exact (show 2 ≤ 2 by decide)) rfl (by simp) (wpN_runs oX6_kind 60 0 _ _ _ _ h)
abbrev nX6_as : Nat := 116
def kX6_as_0 : List Instr := [.aload 0, .getstatic 194, .iload 1, .invokeinterface 17 34, .ifCond .eq 20, .iload 2, .ifCond .lt 20, .iload 2, .iconst 5, .if_icmp .le 23, .iconst (-1000001), .ireturn]
def kX6_as_20 : List Instr := [.iconst (-1000001), .ireturn]
def kX6_as_23 : List Instr := [.aload 0, .getstatic 194, .getstatic 70, .iload 1, .iaload, .iload 2, .multianewarray 126 2, .ifCond .ne 45, .aload 0, .iconst 3, .invokeinterface 121 98, .ireturn]
def kX6_as_45 : List Instr := [.aload 0, .iload 1, .invokeinterface 122 98, .ireturn]
def tX6_as : Bt := [(0, kX6_as_0), (20, kX6_as_20), (23, kX6_as_23), (45, kX6_as_45)]
theorem tX6_as_0 : tb tX6_as 0 = kX6_as_0 := rfl
theorem tX6_as_20 : tb tX6_as 20 = kX6_as_20 := rfl
theorem tX6_as_23 : tb tX6_as 23 = kX6_as_23 := rfl
theorem tX6_as_45 : tb tX6_as 45 = kX6_as_45 := rfl
theorem oX6_as : okT 116 tX6_as = true := by decide +kernel
theorem eX6_as {d : Nat} {Q : Qt} {M : Mm} {L : Ml} (a0 : Nat) (a1 : Int32) (a2 : Int32) (h : wpN 116 d tX6_as Q 60 0 [some (.ref a0), some (.int a1), some (.int a2)] [] M L) : Good d 116 [.ref a0, .int a1, .int a2] M L Q :=
  good_of (x := []) (mF_pn 116 (by decide)) (mF_cn 116 (by decide)) rfl (by rw [show mL 116 = 3 by decide +kernel]; exact (show 3 ≤ 3 by decide)) rfl (by simp) (wpN_runs oX6_as 60 0 _ _ _ _ h)
abbrev nX6_ask : Nat := 117
def kX6_ask_0 : List Instr := [.aload 0, .getstatic 194, .iload 1, .invokeinterface 17 34, .ifCond .eq 18, .iload 2, .multianewarray 125 1, .ifCond .ne 21, .iconst (-1000001), .ireturn]
def kX6_ask_18 : List Instr := [.iconst (-1000001), .ireturn]
def kX6_ask_21 : List Instr := [.aload 0, .getstatic 199, .iload 1, .aload 0, .getstatic 194, .getstatic 70, .iload 1, .iaload, .aload 0, .getstatic 194, .getstatic 72, .iload 1, .iaload, .aload 0, .getstatic 194, .getstatic 75, .iload 1, .iaload, .invokeinterface 4 21, .iload 2, .ifCond .ne 70, .aload 0, .getstatic 199, .invokeinterface 7 17, .goto 77]
def kX6_ask_70 : List Instr := [.aload 0, .getstatic 199, .invokeinterface 8 17, .ireturn]
def kX6_ask_77 : List Instr := [.ireturn]
def tX6_ask : Bt := [(0, kX6_ask_0), (18, kX6_ask_18), (21, kX6_ask_21), (70, kX6_ask_70), (77, kX6_ask_77)]
theorem tX6_ask_0 : tb tX6_ask 0 = kX6_ask_0 := rfl
theorem tX6_ask_18 : tb tX6_ask 18 = kX6_ask_18 := rfl
theorem tX6_ask_21 : tb tX6_ask 21 = kX6_ask_21 := rfl
theorem tX6_ask_70 : tb tX6_ask 70 = kX6_ask_70 := rfl
theorem tX6_ask_77 : tb tX6_ask 77 = kX6_ask_77 := rfl
theorem oX6_ask : okT 117 tX6_ask = true := by decide +kernel
theorem eX6_ask {d : Nat} {Q : Qt} {M : Mm} {L : Ml} (a0 : Nat) (a1 : Int32) (a2 : Int32) (h : wpN 117 d tX6_ask Q 60 0 [some (.ref a0), some (.int a1), some (.int a2)] [] M L) : Good d 117 [.ref a0, .int a1, .int a2] M L Q :=
  good_of (x := []) (mF_pn 117 (by decide)) (mF_cn 117 (by decide)) rfl (by rw [show mL 117 = 3 by decide +kernel]; exact (show 3 ≤ 3 by decide)) rfl (by simp) (wpN_runs oX6_ask 60 0 _ _ _ _ h)
abbrev nX6_trace : Nat := 118
def kX6_trace_0 : List Instr := [.aload 0, .getstatic 199, .iload 1, .invokeinterface 5 18, .ireturn]
def tX6_trace : Bt := [(0, kX6_trace_0)]
theorem tX6_trace_0 : tb tX6_trace 0 = kX6_trace_0 := rfl
theorem oX6_trace : okT 118 tX6_trace = true := by decide +kernel
theorem eX6_trace {d : Nat} {Q : Qt} {M : Mm} {L : Ml} (a0 : Nat) (a1 : Int32) (h : wpN 118 d tX6_trace Q 60 0 [some (.ref a0), some (.int a1)] [] M L) : Good d 118 [.ref a0, .int a1] M L Q :=
  good_of (x := []) (mF_pn 118 (by decide)) (mF_cn 118 (by decide)) rfl (by rw [show mL 118 = 2 by decide +kernel]; exact (show 2 ≤ 2 by decide)) rfl (by simp) (wpN_runs oX6_trace 60 0 _ _ _ _ h)
abbrev nX6_count : Nat := 119
def kX6_count_0 : List Instr := [.iload 1, .lookupswitch 112 #[(0, 48), (1, 56), (2, 64), (3, 72), (4, 80), (5, 88), (6, 96), (7, 104)]]
def kX6_count_48 : List Instr := [.aload 0, .getstatic 192, .invokeinterface 43 49, .ireturn]
def kX6_count_56 : List Instr := [.aload 0, .getstatic 194, .getfield 64, .ireturn]
def kX6_count_64 : List Instr := [.aload 0, .getstatic 194, .getfield 65, .ireturn]
def kX6_count_72 : List Instr := [.aload 0, .getstatic 194, .getfield 67, .ireturn]
def kX6_count_80 : List Instr := [.aload 0, .getstatic 194, .invokeinterface 22 33, .ireturn]
def kX6_count_88 : List Instr := [.aload 0, .getstatic 194, .invokeinterface 24 33, .ireturn]
def kX6_count_96 : List Instr := [.aload 0, .getstatic 196, .invokeinterface 0 1, .ireturn]
def kX6_count_104 : List Instr := [.aload 0, .getstatic 193, .invokeinterface 74 81, .ireturn]
def kX6_count_112 : List Instr := [.iconst (-1000001), .ireturn]
def tX6_count : Bt := [(0, kX6_count_0), (48, kX6_count_48), (56, kX6_count_56), (64, kX6_count_64), (72, kX6_count_72), (80, kX6_count_80), (88, kX6_count_88), (96, kX6_count_96), (104, kX6_count_104), (112, kX6_count_112)]
theorem tX6_count_0 : tb tX6_count 0 = kX6_count_0 := rfl
theorem tX6_count_48 : tb tX6_count 48 = kX6_count_48 := rfl
theorem tX6_count_56 : tb tX6_count 56 = kX6_count_56 := rfl
theorem tX6_count_64 : tb tX6_count 64 = kX6_count_64 := rfl
theorem tX6_count_72 : tb tX6_count 72 = kX6_count_72 := rfl
theorem tX6_count_80 : tb tX6_count 80 = kX6_count_80 := rfl
theorem tX6_count_88 : tb tX6_count 88 = kX6_count_88 := rfl
theorem tX6_count_96 : tb tX6_count 96 = kX6_count_96 := rfl
theorem tX6_count_104 : tb tX6_count 104 = kX6_count_104 := rfl
theorem tX6_count_112 : tb tX6_count 112 = kX6_count_112 := rfl
theorem oX6_count : okT 119 tX6_count = true := by decide +kernel
theorem eX6_count {d : Nat} {Q : Qt} {M : Mm} {L : Ml} (a0 : Nat) (a1 : Int32) (h : wpN 119 d tX6_count Q 60 0 [some (.ref a0), some (.int a1)] [] M L) : Good d 119 [.ref a0, .int a1] M L Q :=
  good_of (x := []) (mF_pn 119 (by decide)) (mF_cn 119 (by decide)) rfl (by rw [show mL 119 = 2 by decide +kernel]; exact (show 2 ≤ 2 by decide)) rfl (by simp) (wpN_runs oX6_count 60 0 _ _ _ _ h)
abbrev nX6_status : Nat := 120
def kX6_status_0 : List Instr := [.aload 0, .getfield 201, .ireturn]
def tX6_status : Bt := [(0, kX6_status_0)]
theorem tX6_status_0 : tb tX6_status 0 = kX6_status_0 := rfl
theorem oX6_status : okT 120 tX6_status = true := by decide +kernel
theorem eX6_status {d : Nat} {Q : Qt} {M : Mm} {L : Ml} (a0 : Nat) (h : wpN 120 d tX6_status Q 60 0 [some (.ref a0)] [] M L) : Good d 120 [.ref a0] M L Q :=
  good_of (x := []) (mF_pn 120 (by decide)) (mF_cn 120 (by decide)) rfl (by rw [show mL 120 = 1 by decide +kernel]; exact (show 1 ≤ 1 by decide)) rfl (by simp) (wpN_runs oX6_status 60 0 _ _ _ _ h)
abbrev nX6_finding : Nat := 121
def kX6_finding_0 : List Instr := [.aload 0, .iload 1, .putfield 201, .iconst (-1000010), .iload 1, .isub, .ireturn]
def tX6_finding : Bt := [(0, kX6_finding_0)]
theorem tX6_finding_0 : tb tX6_finding 0 = kX6_finding_0 := rfl
theorem oX6_finding : okT 121 tX6_finding = true := by decide +kernel
theorem eX6_finding {d : Nat} {Q : Qt} {M : Mm} {L : Ml} (a0 : Nat) (a1 : Int32) (h : wpN 121 d tX6_finding Q 60 0 [some (.ref a0), some (.int a1)] [] M L) : Good d 121 [.ref a0, .int a1] M L Q :=
  good_of (x := []) (mF_pn 121 (by decide)) (mF_cn 121 (by decide)) rfl (by rw [show mL 121 = 2 by decide +kernel]; exact (show 2 ≤ 2 by decide)) rfl (by simp) (wpN_runs oX6_finding 60 0 _ _ _ _ h)
abbrev nX6_unhindered : Nat := 122
def kX6_unhindered_0 : List Instr := [.aload 0, .iconst 0, .putfield 201, .iload 1, .ireturn]
def tX6_unhindered : Bt := [(0, kX6_unhindered_0)]
theorem tX6_unhindered_0 : tb tX6_unhindered 0 = kX6_unhindered_0 := rfl
theorem oX6_unhindered : okT 122 tX6_unhindered = true := by decide +kernel
theorem eX6_unhindered {d : Nat} {Q : Qt} {M : Mm} {L : Ml} (a0 : Nat) (a1 : Int32) (h : wpN 122 d tX6_unhindered Q 60 0 [some (.ref a0), some (.int a1)] [] M L) : Good d 122 [.ref a0, .int a1] M L Q :=
  good_of (x := []) (mF_pn 122 (by decide)) (mF_cn 122 (by decide)) rfl (by rw [show mL 122 = 2 by decide +kernel]; exact (show 2 ≤ 2 by decide)) rfl (by simp) (wpN_runs oX6_unhindered 60 0 _ _ _ _ h)
abbrev nX6_isRow : Nat := 123
def kX6_isRow_0 : List Instr := [.iload 0, .ifCond .lt 14, .iload 0, .iconst 8, .if_icmp .ge 14, .iconst 1, .goto 15]
def kX6_isRow_14 : List Instr := [.iconst 0, .freturn]
def kX6_isRow_15 : List Instr := [.freturn]
def tX6_isRow : Bt := [(0, kX6_isRow_0), (14, kX6_isRow_14), (15, kX6_isRow_15)]
theorem tX6_isRow_0 : tb tX6_isRow 0 = kX6_isRow_0 := rfl
theorem tX6_isRow_14 : tb tX6_isRow 14 = kX6_isRow_14 := rfl
theorem tX6_isRow_15 : tb tX6_isRow 15 = kX6_isRow_15 := rfl
theorem oX6_isRow : okT 123 tX6_isRow = true := by decide +kernel
theorem eX6_isRow {d : Nat} {Q : Qt} {M : Mm} {L : Ml} (a0 : Int32) (h : wpN 123 d tX6_isRow Q 60 0 [some (.int a0)] [] M L) : Good d 123 [.int a0] M L Q :=
  good_of (x := []) (mF_pn 123 (by decide)) (mF_cn 123 (by decide)) rfl (by rw [show mL 123 = 1 by decide +kernel]; exact (show 1 ≤ 1 by decide)) rfl (by simp) (wpN_runs oX6_isRow 60 0 _ _ _ _ h)
abbrev nX6_isImage : Nat := 124
def kX6_isImage_0 : List Instr := [.iload 0, .ifCond .lt 13, .iload 0, .iconst 2, .if_icmp .ge 13, .iconst 1, .goto 14]
def kX6_isImage_13 : List Instr := [.iconst 0, .freturn]
def kX6_isImage_14 : List Instr := [.freturn]
def tX6_isImage : Bt := [(0, kX6_isImage_0), (13, kX6_isImage_13), (14, kX6_isImage_14)]
theorem tX6_isImage_0 : tb tX6_isImage 0 = kX6_isImage_0 := rfl
theorem tX6_isImage_13 : tb tX6_isImage 13 = kX6_isImage_13 := rfl
theorem tX6_isImage_14 : tb tX6_isImage 14 = kX6_isImage_14 := rfl
theorem oX6_isImage : okT 124 tX6_isImage = true := by decide +kernel
theorem eX6_isImage {d : Nat} {Q : Qt} {M : Mm} {L : Ml} (a0 : Int32) (h : wpN 124 d tX6_isImage Q 60 0 [some (.int a0)] [] M L) : Good d 124 [.int a0] M L Q :=
  good_of (x := []) (mF_pn 124 (by decide)) (mF_cn 124 (by decide)) rfl (by rw [show mL 124 = 1 by decide +kernel]; exact (show 1 ≤ 1 by decide)) rfl (by simp) (wpN_runs oX6_isImage 60 0 _ _ _ _ h)
abbrev nX6_isHalf : Nat := 125
def kX6_isHalf_0 : List Instr := [.iload 0, .ifCond .eq 9, .iload 0, .iconst 1, .if_icmp .ne 13, .iconst 1, .goto 14]
def kX6_isHalf_9 : List Instr := [.iconst 1, .goto 14]
def kX6_isHalf_13 : List Instr := [.iconst 0, .freturn]
def kX6_isHalf_14 : List Instr := [.freturn]
def tX6_isHalf : Bt := [(0, kX6_isHalf_0), (9, kX6_isHalf_9), (13, kX6_isHalf_13), (14, kX6_isHalf_14)]
theorem tX6_isHalf_0 : tb tX6_isHalf 0 = kX6_isHalf_0 := rfl
theorem tX6_isHalf_9 : tb tX6_isHalf 9 = kX6_isHalf_9 := rfl
theorem tX6_isHalf_13 : tb tX6_isHalf 13 = kX6_isHalf_13 := rfl
theorem tX6_isHalf_14 : tb tX6_isHalf 14 = kX6_isHalf_14 := rfl
theorem oX6_isHalf : okT 125 tX6_isHalf = true := by decide +kernel
theorem eX6_isHalf {d : Nat} {Q : Qt} {M : Mm} {L : Ml} (a0 : Int32) (h : wpN 125 d tX6_isHalf Q 60 0 [some (.int a0)] [] M L) : Good d 125 [.int a0] M L Q :=
  good_of (x := []) (mF_pn 125 (by decide)) (mF_cn 125 (by decide)) rfl (by rw [show mL 125 = 1 by decide +kernel]; exact (show 1 ≤ 1 by decide)) rfl (by simp) (wpN_runs oX6_isHalf 60 0 _ _ _ _ h)
