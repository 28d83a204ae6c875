abbrev nX3_isMissing : Nat := 42
def kX3_isMissing_0 : List Instr := [.aload 0, .getstatic 98, .iload 1, .iaload, .iconst (-1), .if_icmp .ne 14, .iconst 1, .goto 15]
def kX3_isMissing_14 : List Instr := [.iconst 0, .freturn]
def kX3_isMissing_15 : List Instr := [.freturn]
def tX3_isMissing : Bt := [(0, kX3_isMissing_0), (14, kX3_isMissing_14), (15, kX3_isMissing_15)]
theorem tX3_isMissing_0 : tb tX3_isMissing 0 = kX3_isMissing_0 := rfl
theorem tX3_isMissing_14 : tb tX3_isMissing 14 = kX3_isMissing_14 := rfl
theorem tX3_isMissing_15 : tb tX3_isMissing 15 = kX3_isMissing_15 := rfl
theorem oX3_isMissing : okT 42 tX3_isMissing = true := by decide +kernel
theorem eX3_isMissing {d : Nat} {Q : Qt} {M : Mm} {L : Ml} (a0 : Nat) (a1 : Int32) (h : wpN 42 d tX3_isMissing Q 60 0 [some (.ref a0), some (.int a1)] [] M L) : Good d 42 [.ref a0, .int a1] M L Q :=
  good_of (x := []) (mF_pn 42 (by decide)) (mF_cn 42 (by decide)) rfl (by rw [show mL 42 = 2 by decide +kernel]; exact (show 2 ≤ 2 by decide)) rfl (by simp) (wpN_runs oX3_isMissing 60 0 _ _ _ _ h)
abbrev nX3_present : Nat := 43
def kX3_present_0 : List Instr := [.iconst 0, .istore 1, .iconst 0, .istore 2, .ret 4]
def kX3_present_4 : List Instr := [.ret 4]
def kX3_present_21 : List Instr := [.iinc 2 1, .goto 4]
def kX3_present_27 : List Instr := [.iload 1, .ireturn]
def hX3_present_4 : List Instr := [.iload 2, .iconst 8, .if_icmp .ge 27, .aload 0, .iload 2, .invokeinterface 42 50, .ifCond .ne 21, .iinc 1 1, .iinc 2 1, .goto 4]
def tX3_present : Bt := [(0, kX3_present_0), (4, kX3_present_4), (21, kX3_present_21), (27, kX3_present_27)]
theorem tX3_present_0 : tb tX3_present 0 = kX3_present_0 := rfl
theorem tX3_present_4 : tb tX3_present 4 = kX3_present_4 := rfl
theorem tX3_present_21 : tb tX3_present 21 = kX3_present_21 := rfl
theorem tX3_present_27 : tb tX3_present 27 = kX3_present_27 := rfl
theorem oX3_present : okT 43 tX3_present = true := by decide +kernel
theorem oX3_present_4 : okB 43 4 hX3_present_4 = true := by decide +kernel
theorem eX3_present {d : Nat} {Q : Qt} {M : Mm} {L : Ml} (a0 : Nat) (h : wpN 43 d tX3_present Q 60 0 [some (.ref a0), none, none] [] M L) : Good d 43 [.ref a0] M L Q :=
  good_of (x := [none, none]) (mF_pn 43 (by decide)) (mF_cn 43 (by decide)) rfl (by rw [show mL 43 = 3 by decide +kernel]; exact (show 1 ≤ 3 by decide)) rfl (by simp) (wpN_runs oX3_present 60 0 _ _ _ _ h)
abbrev nX3_hindrance : Nat := 44
def kX3_hindrance_0 : List Instr := [.aload 0, .iload 1, .invokeinterface 42 50, .ifCond .eq 10, .iconst 1, .ireturn]
def kX3_hindrance_10 : List Instr := [.aload 0, .iload 1, .iload 2, .iload 3, .invokeinterface 46 52, .ifCond .eq 24, .iconst 0, .goto 25]
def kX3_hindrance_24 : List Instr := [.iconst 2, .ireturn]
def kX3_hindrance_25 : List Instr := [.ireturn]
def tX3_hindrance : Bt := [(0, kX3_hindrance_0), (10, kX3_hindrance_10), (24, kX3_hindrance_24), (25, kX3_hindrance_25)]
theorem tX3_hindrance_0 : tb tX3_hindrance 0 = kX3_hindrance_0 := rfl
theorem tX3_hindrance_10 : tb tX3_hindrance 10 = kX3_hindrance_10 := rfl
theorem tX3_hindrance_24 : tb tX3_hindrance 24 = kX3_hindrance_24 := rfl
theorem tX3_hindrance_25 : tb tX3_hindrance 25 = kX3_hindrance_25 := rfl
theorem oX3_hindrance : okT 44 tX3_hindrance = true := by decide +kernel
theorem eX3_hindrance {d : Nat} {Q : Qt} {M : Mm} {L : Ml} (a0 : Nat) (a1 : Int32) (a2 : Int32) (a3 : Int32) (h : wpN 44 d tX3_hindrance Q 60 0 [some (.ref a0), some (.int a1), some (.int a2), some (.int a3)] [] M L) : Good d 44 [.ref a0, .int a1, .int a2, .int a3] M L Q :=
  good_of (x := []) (mF_pn 44 (by decide)) (mF_cn 44 (by decide)) rfl (by rw [show mL 44 = 4 by decide +kernel]; exact (show 4 ≤ 4 by decide)) rfl (by simp) (wpN_runs oX3_hindrance 60 0 _ _ _ _ h)
abbrev nX3_hindranceOfTwo : Nat := 45
def kX3_hindranceOfTwo_0 : List Instr := [.aload 0, .iload 1, .invokeinterface 42 50, .ifCond .ne 16, .aload 0, .iload 3, .invokeinterface 42 50, .ifCond .eq 18, .iconst 1, .ireturn]
def kX3_hindranceOfTwo_16 : List Instr := [.iconst 1, .ireturn]
def kX3_hindranceOfTwo_18 : List Instr := [.aload 0, .getstatic 97, .iload 1, .iaload, .aload 0, .getstatic 97, .iload 3, .iaload, .if_icmp .eq 35, .iconst 5, .ireturn]
def kX3_hindranceOfTwo_35 : List Instr := [.aload 0, .iload 1, .iload 2, .iload 5, .invokeinterface 46 52, .ifCond .eq 62, .aload 0, .iload 3, .iload 4, .iload 5, .invokeinterface 46 52, .ifCond .eq 62, .iconst 0, .goto 63]
def kX3_hindranceOfTwo_62 : List Instr := [.iconst 2, .ireturn]
def kX3_hindranceOfTwo_63 : List Instr := [.ireturn]
def tX3_hindranceOfTwo : Bt := [(0, kX3_hindranceOfTwo_0), (16, kX3_hindranceOfTwo_16), (18, kX3_hindranceOfTwo_18), (35, kX3_hindranceOfTwo_35), (62, kX3_hindranceOfTwo_62), (63, kX3_hindranceOfTwo_63)]
theorem tX3_hindranceOfTwo_0 : tb tX3_hindranceOfTwo 0 = kX3_hindranceOfTwo_0 := rfl
theorem tX3_hindranceOfTwo_16 : tb tX3_hindranceOfTwo 16 = kX3_hindranceOfTwo_16 := rfl
theorem tX3_hindranceOfTwo_18 : tb tX3_hindranceOfTwo 18 = kX3_hindranceOfTwo_18 := rfl
theorem tX3_hindranceOfTwo_35 : tb tX3_hindranceOfTwo 35 = kX3_hindranceOfTwo_35 := rfl
theorem tX3_hindranceOfTwo_62 : tb tX3_hindranceOfTwo 62 = kX3_hindranceOfTwo_62 := rfl
theorem tX3_hindranceOfTwo_63 : tb tX3_hindranceOfTwo 63 = kX3_hindranceOfTwo_63 := rfl
theorem oX3_hindranceOfTwo : okT 45 tX3_hindranceOfTwo = true := by decide +kernel
theorem eX3_hindranceOfTwo {d : Nat} {Q : Qt} {M : Mm} {L : Ml} (a0 : Nat) (a1 : Int32) (a2 : Int32) (a3 : Int32) (a4 : Int32) (a5 : Int32) (h : wpN 45 d tX3_hindranceOfTwo Q 60 0 [some (.ref a0), some (.int a1), some (.int a2), some (.int a3), some (.int a4), some (.int a5)] [] M L) : Good d 45 [.ref a0, .int a1, .int a2, .int a3, .int a4, .int a5] M L Q :=
  good_of (x := []) (mF_pn 45 (by decide)) (mF_cn 45 (by decide)) rfl (by rw [show mL 45 = 6 by decide +kernel]; exact (show 6 ≤ 6 by decide)) rfl (by simp) (wpN_runs oX3_hindranceOfTwo 60 0 _ _ _ _ h)
abbrev nX3_isWithin : Nat := 46
def kX3_isWithin_0 : List Instr := [.iload 2, .ifCond .lt 24, .iload 3, .ifCond .lt 24, .iload 2, .aload 0, .getstatic 98, .iload 1, .iaload, .iload 3, .isub, .if_icmp .gt 24, .iconst 1, .goto 25]
def kX3_isWithin_24 : List Instr := [.iconst 0, .freturn]
def kX3_isWithin_25 : List Instr := [.freturn]
def tX3_isWithin : Bt := [(0, kX3_isWithin_0), (24, kX3_isWithin_24), (25, kX3_isWithin_25)]
theorem tX3_isWithin_0 : tb tX3_isWithin 0 = kX3_isWithin_0 := rfl
theorem tX3_isWithin_24 : tb tX3_isWithin 24 = kX3_isWithin_24 := rfl
theorem tX3_isWithin_25 : tb tX3_isWithin 25 = kX3_isWithin_25 := rfl
theorem oX3_isWithin : okT 46 tX3_isWithin = true := by decide +kernel
theorem eX3_isWithin {d : Nat} {Q : Qt} {M : Mm} {L : Ml} (a0 : Nat) (a1 : Int32) (a2 : Int32) (a3 : Int32) (h : wpN 46 d tX3_isWithin Q 60 0 [some (.ref a0), some (.int a1), some (.int a2), some (.int a3)] [] M L) : Good d 46 [.ref a0, .int a1, .int a2, .int a3] M L Q :=
  good_of (x := []) (mF_pn 46 (by decide)) (mF_cn 46 (by decide)) rfl (by rw [show mL 46 = 4 by decide +kernel]; exact (show 4 ≤ 4 by decide)) rfl (by simp) (wpN_runs oX3_isWithin 60 0 _ _ _ _ h)
abbrev nX4_behind : Nat := 47
def kX4_behind_0 : List Instr := [.aload 0, .getstatic 128, .aload 1, .invokeinterface 14 34, .aload 0, .getstatic 128, .iload 2, .invokeinterface 28 34, .aload 0, .getstatic 128, .areturn]
def tX4_behind : Bt := [(0, kX4_behind_0)]
theorem tX4_behind_0 : tb tX4_behind 0 = kX4_behind_0 := rfl
theorem oX4_behind : okT 47 tX4_behind = true := by decide +kernel
theorem eX4_behind {d : Nat} {Q : Qt} {M : Mm} {L : Ml} (a0 : Nat) (a1 : Nat) (a2 : Int32) (h : wpN 47 d tX4_behind Q 60 0 [some (.ref a0), some (.ref a1), some (.int a2)] [] M L) : Good d 47 [.ref a0, .ref a1, .int a2] M L Q :=
  good_of (x := []) (mF_pn 47 (by decide)) (mF_cn 47 (by decide)) rfl (by rw [show mL 47 = 3 by decide +kernel]; exact (show 3 ≤ 3 by decide)) rfl (by simp) (wpN_runs oX4_behind 60 0 _ _ _ _ h)
abbrev nX4_firstSoFarGone : Nat := 48
def kX4_firstSoFarGone_0 : List Instr := [.aload 0, .getstatic 128, .aload 1, .invokeinterface 14 34, .iconst 0, .istore 4, .ret 11]
def kX4_firstSoFarGone_11 : List Instr := [.ret 11]
def kX4_firstSoFarGone_34 : List Instr := [.aload 0, .getstatic 128, .invokeinterface 29 33, .iinc 4 1, .goto 11]
def kX4_firstSoFarGone_47 : List Instr := [.iconst (-1000000), .ireturn]
def hX4_firstSoFarGone_11 : List Instr := [.iload 4, .iconst 60, .if_icmp .gt 47, .aload 0, .getstatic 128, .getstatic 73, .iload 2, .iaload, .iload 3, .if_icmp .lt 34, .iload 4, .ireturn]
def tX4_firstSoFarGone : Bt := [(0, kX4_firstSoFarGone_0), (11, kX4_firstSoFarGone_11), (34, kX4_firstSoFarGone_34), (47, kX4_firstSoFarGone_47)]
theorem tX4_firstSoFarGone_0 : tb tX4_firstSoFarGone 0 = kX4_firstSoFarGone_0 := rfl
theorem tX4_firstSoFarGone_11 : tb tX4_firstSoFarGone 11 = kX4_firstSoFarGone_11 := rfl
theorem tX4_firstSoFarGone_34 : tb tX4_firstSoFarGone 34 = kX4_firstSoFarGone_34 := rfl
theorem tX4_firstSoFarGone_47 : tb tX4_firstSoFarGone 47 = kX4_firstSoFarGone_47 := rfl
theorem oX4_firstSoFarGone : okT 48 tX4_firstSoFarGone = true := by decide +kernel
theorem oX4_firstSoFarGone_11 : okB 48 11 hX4_firstSoFarGone_11 = true := by decide +kernel
theorem eX4_firstSoFarGone {d : Nat} {Q : Qt} {M : Mm} {L : Ml} (a0 : Nat) (a1 : Nat) (a2 : Int32) (a3 : Int32) (h : wpN 48 d tX4_firstSoFarGone Q 60 0 [some (.ref a0), some (.ref a1), some (.int a2), some (.int a3), none] [] M L) : Good d 48 [.ref a0, .ref a1, .int a2, .int a3] M L Q :=
  good_of (x := [none]) (mF_pn 48 (by decide)) (mF_cn 48 (by decide)) rfl (by rw [show mL 48 = 5 by decide +kernel]; exact (show 4 ≤ 5 by decide)) rfl (by simp) (wpN_runs oX4_firstSoFarGone 60 0 _ _ _ _ h)
abbrev nX4_firstFound : Nat := 49
def kX4_firstFound_0 : List Instr := [.aload 0, .getstatic 128, .aload 1, .invokeinterface 14 34, .iconst 0, .istore 2, .ret 10]
def kX4_firstFound_10 : List Instr := [.ret 10]
def kX4_firstFound_28 : List Instr := [.aload 0, .getstatic 128, .invokeinterface 29 33, .iinc 2 1, .goto 10]
def kX4_firstFound_41 : List Instr := [.iconst (-1000000), .ireturn]
def hX4_firstFound_10 : List Instr := [.iload 2, .iconst 60, .if_icmp .gt 41, .aload 0, .getstatic 128, .getfield 68, .ifCond .eq 28, .iload 2, .ireturn]
def tX4_firstFound : Bt := [(0, kX4_firstFound_0), (10, kX4_firstFound_10), (28, kX4_firstFound_28), (41, kX4_firstFound_41)]
theorem tX4_firstFound_0 : tb tX4_firstFound 0 = kX4_firstFound_0 := rfl
theorem tX4_firstFound_10 : tb tX4_firstFound 10 = kX4_firstFound_10 := rfl
theorem tX4_firstFound_28 : tb tX4_firstFound 28 = kX4_firstFound_28 := rfl
theorem tX4_firstFound_41 : tb tX4_firstFound 41 = kX4_firstFound_41 := rfl
theorem oX4_firstFound : okT 49 tX4_firstFound = true := by decide +kernel
theorem oX4_firstFound_10 : okB 49 10 hX4_firstFound_10 = true := by decide +kernel
theorem eX4_firstFound {d : Nat} {Q : Qt} {M : Mm} {L : Ml} (a0 : Nat) (a1 : Nat) (h : wpN 49 d tX4_firstFound Q 60 0 [some (.ref a0), some (.ref a1), none] [] M L) : Good d 49 [.ref a0, .ref a1] M L Q :=
  good_of (x := [none]) (mF_pn 49 (by decide)) (mF_cn 49 (by decide)) rfl (by rw [show mL 49 = 3 by decide +kernel]; exact (show 2 ≤ 3 by decide)) rfl (by simp) (wpN_runs oX4_firstFound 60 0 _ _ _ _ h)
abbrev nX4_firstMeeting : Nat := 50
def kX4_firstMeeting_0 : List Instr := [.aload 0, .getstatic 128, .aload 1, .invokeinterface 14 34, .iconst 0, .istore 4, .ret 11]
def kX4_firstMeeting_11 : List Instr := [.ret 11]
def kX4_firstMeeting_47 : List Instr := [.aload 0, .getstatic 128, .invokeinterface 29 33, .iinc 4 1, .goto 11]
def kX4_firstMeeting_60 : List Instr := [.iconst (-1000000), .ireturn]
def hX4_firstMeeting_11 : List Instr := [.iload 4, .iconst 60, .if_icmp .gt 60, .aload 0, .getstatic 128, .getstatic 71, .iload 2, .iaload, .iload 3, .if_icmp .ne 47, .aload 0, .getstatic 128, .getstatic 71, .iload 3, .iaload, .iload 2, .if_icmp .ne 47, .iload 4, .ireturn]
def tX4_firstMeeting : Bt := [(0, kX4_firstMeeting_0), (11, kX4_firstMeeting_11), (47, kX4_firstMeeting_47), (60, kX4_firstMeeting_60)]
theorem tX4_firstMeeting_0 : tb tX4_firstMeeting 0 = kX4_firstMeeting_0 := rfl
theorem tX4_firstMeeting_11 : tb tX4_firstMeeting 11 = kX4_firstMeeting_11 := rfl
theorem tX4_firstMeeting_47 : tb tX4_firstMeeting 47 = kX4_firstMeeting_47 := rfl
theorem tX4_firstMeeting_60 : tb tX4_firstMeeting 60 = kX4_firstMeeting_60 := rfl
theorem oX4_firstMeeting : okT 50 tX4_firstMeeting = true := by decide +kernel
theorem oX4_firstMeeting_11 : okB 50 11 hX4_firstMeeting_11 = true := by decide +kernel
theorem eX4_firstMeeting {d : Nat} {Q : Qt} {M : Mm} {L : Ml} (a0 : Nat) (a1 : Nat) (a2 : Int32) (a3 : Int32) (h : wpN 50 d tX4_firstMeeting Q 60 0 [some (.ref a0), some (.ref a1), some (.int a2), some (.int a3), none] [] M L) : Good d 50 [.ref a0, .ref a1, .int a2, .int a3] M L Q :=
  good_of (x := [none]) (mF_pn 50 (by decide)) (mF_cn 50 (by decide)) rfl (by rw [show mL 50 = 5 by decide +kernel]; exact (show 4 ≤ 5 by decide)) rfl (by simp) (wpN_runs oX4_firstMeeting 60 0 _ _ _ _ h)
abbrev nX4_findBestRole : Nat := 51
def kX4_findBestRole_0 : List Instr := [.aload 0, .iconst (-1000000), .putfield 132, .aload 0, .iconst (-1000000), .putfield 133, .iconst 0, .istore 3, .ret 14]
def kX4_findBestRole_14 : List Instr := [.ret 14]
def kX4_findBestRole_54 : List Instr := [.return_]
def hX4_findBestRole_14 : List Instr := [.iload 3, .aload 1, .getfield 64, .if_icmp .ge 54, .aload 0, .aload 1, .iload 3, .invokeinterface 52 67, .aload 0, .getstatic 128, .iload 2, .invokeinterface 28 34, .aload 0, .iload 3, .aload 0, .getstatic 128, .invokeinterface 22 33, .invokeinterface 54 67, .iinc 3 1, .goto 14]
def tX4_findBestRole : Bt := [(0, kX4_findBestRole_0), (14, kX4_findBestRole_14), (54, kX4_findBestRole_54)]
theorem tX4_findBestRole_0 : tb tX4_findBestRole 0 = kX4_findBestRole_0 := rfl
theorem tX4_findBestRole_14 : tb tX4_findBestRole 14 = kX4_findBestRole_14 := rfl
theorem tX4_findBestRole_54 : tb tX4_findBestRole 54 = kX4_findBestRole_54 := rfl
theorem oX4_findBestRole : okT 51 tX4_findBestRole = true := by decide +kernel
theorem oX4_findBestRole_14 : okB 51 14 hX4_findBestRole_14 = true := by decide +kernel
theorem eX4_findBestRole {d : Nat} {Q : Qt} {M : Mm} {L : Ml} (a0 : Nat) (a1 : Nat) (a2 : Int32) (h : wpN 51 d tX4_findBestRole Q 60 0 [some (.ref a0), some (.ref a1), some (.int a2), none] [] M L) : Good d 51 [.ref a0, .ref a1, .int a2] M L Q :=
  good_of (x := [none]) (mF_pn 51 (by decide)) (mF_cn 51 (by decide)) rfl (by rw [show mL 51 = 4 by decide +kernel]; exact (show 3 ≤ 4 by decide)) rfl (by simp) (wpN_runs oX4_findBestRole 60 0 _ _ _ _ h)
abbrev nX4_beginWithMurderer : Nat := 52
def kX4_beginWithMurderer_0 : List Instr := [.aload 0, .getstatic 128, .aload 1, .invokeinterface 14 34, .aload 0, .getstatic 128, .getfield 65, .iload 2, .if_icmp .eq 27, .aload 0, .getstatic 128, .iload 2, .invokeinterface 25 34, .return_]
def kX4_beginWithMurderer_27 : List Instr := [.return_]
def tX4_beginWithMurderer : Bt := [(0, kX4_beginWithMurderer_0), (27, kX4_beginWithMurderer_27)]
theorem tX4_beginWithMurderer_0 : tb tX4_beginWithMurderer 0 = kX4_beginWithMurderer_0 := rfl
theorem tX4_beginWithMurderer_27 : tb tX4_beginWithMurderer 27 = kX4_beginWithMurderer_27 := rfl
theorem oX4_beginWithMurderer : okT 52 tX4_beginWithMurderer = true := by decide +kernel
theorem eX4_beginWithMurderer {d : Nat} {Q : Qt} {M : Mm} {L : Ml} (a0 : Nat) (a1 : Nat) (a2 : Int32) (h : wpN 52 d tX4_beginWithMurderer Q 60 0 [some (.ref a0), some (.ref a1), some (.int a2)] [] M L) : Good d 52 [.ref a0, .ref a1, .int a2] M L Q :=
  good_of (x := []) (mF_pn 52 (by decide)) (mF_cn 52 (by decide)) rfl (by rw [show mL 52 = 3 by decide +kernel]; exact (show 3 ≤ 3 by decide)) rfl (by simp) (wpN_runs oX4_beginWithMurderer 60 0 _ _ _ _ h)
abbrev nX4_findBestGlance : Nat := 53
def kX4_findBestGlance_0 : List Instr := [.aload 0, .iconst (-1000000), .putfield 132, .aload 0, .iconst (-1000000), .putfield 133, .iconst 0, .istore 3, .ret 14]
def kX4_findBestGlance_14 : List Instr := [.ret 14]
def kX4_findBestGlance_82 : List Instr := [.iinc 3 1, .goto 14]
def kX4_findBestGlance_88 : List Instr := [.return_]
def hX4_findBestGlance_14 : List Instr := [.iload 3, .aload 1, .getfield 64, .if_icmp .ge 88, .iload 3, .aload 1, .getfield 65, .if_icmp .eq 82, .aload 1, .aload 1, .getfield 65, .invokeinterface 17 34, .ifCond .eq 82, .aload 0, .getstatic 128, .aload 1, .invokeinterface 14 34, .aload 0, .getstatic 128, .getstatic 71, .aload 1, .getfield 65, .iload 3, .iastore, .aload 0, .getstatic 128, .iload 2, .invokeinterface 28 34, .aload 0, .iload 3, .aload 0, .getstatic 128, .invokeinterface 22 33, .invokeinterface 54 67, .iinc 3 1, .goto 14]
def tX4_findBestGlance : Bt := [(0, kX4_findBestGlance_0), (14, kX4_findBestGlance_14), (82, kX4_findBestGlance_82), (88, kX4_findBestGlance_88)]
theorem tX4_findBestGlance_0 : tb tX4_findBestGlance 0 = kX4_findBestGlance_0 := rfl
theorem tX4_findBestGlance_14 : tb tX4_findBestGlance 14 = kX4_findBestGlance_14 := rfl
theorem tX4_findBestGlance_82 : tb tX4_findBestGlance 82 = kX4_findBestGlance_82 := rfl
theorem tX4_findBestGlance_88 : tb tX4_findBestGlance 88 = kX4_findBestGlance_88 := rfl
theorem oX4_findBestGlance : okT 53 tX4_findBestGlance = true := by decide +kernel
theorem oX4_findBestGlance_14 : okB 53 14 hX4_findBestGlance_14 = true := by decide +kernel
theorem eX4_findBestGlance {d : Nat} {Q : Qt} {M : Mm} {L : Ml} (a0 : Nat) (a1 : Nat) (a2 : Int32) (h : wpN 53 d tX4_findBestGlance Q 60 0 [some (.ref a0), some (.ref a1), some (.int a2), none] [] M L) : Good d 53 [.ref a0, .ref a1, .int a2] M L Q :=
  good_of (x := [none]) (mF_pn 53 (by decide)) (mF_cn 53 (by decide)) rfl (by rw [show mL 53 = 4 by decide +kernel]; exact (show 3 ≤ 4 by decide)) rfl (by simp) (wpN_runs oX4_findBestGlance 60 0 _ _ _ _ h)
abbrev nX4_offer : Nat := 54
def kX4_offer_0 : List Instr := [.iload 2, .aload 0, .getfield 133, .if_icmp .le 18, .aload 0, .iload 1, .putfield 132, .aload 0, .iload 2, .putfield 133, .return_]
def kX4_offer_18 : List Instr := [.return_]
def tX4_offer : Bt := [(0, kX4_offer_0), (18, kX4_offer_18)]
theorem tX4_offer_0 : tb tX4_offer 0 = kX4_offer_0 := rfl
theorem tX4_offer_18 : tb tX4_offer 18 = kX4_offer_18 := rfl
theorem oX4_offer : okT 54 tX4_offer = true := by decide +kernel
theorem eX4_offer {d : Nat} {Q : Qt} {M : Mm} {L : Ml} (a0 : Nat) (a1 : Int32) (a2 : Int32) (h : wpN 54 d tX4_offer Q 60 0 [some (.ref a0), some (.int a1), some (.int a2)] [] M L) : Good d 54 [.ref a0, .int a1, .int a2] M L Q :=
  good_of (x := []) (mF_pn 54 (by decide)) (mF_cn 54 (by decide)) rfl (by rw [show mL 54 = 3 by decide +kernel]; exact (show 3 ≤ 3 by decide)) rfl (by simp) (wpN_runs oX4_offer 60 0 _ _ _ _ h)
abbrev nX4_leastPassingProof : Nat := 55
def kX4_leastPassingProof_0 : List Instr := [.iconst 1, .istore 3, .ret 2]
def kX4_leastPassingProof_2 : List Instr := [.ret 2]
def kX4_leastPassingProof_44 : List Instr := [.iinc 3 1, .goto 2]
def kX4_leastPassingProof_50 : List Instr := [.iconst (-1000000), .ireturn]
def hX4_leastPassingProof_2 : List Instr := [.iload 3, .iconst 9, .if_icmp .gt 50, .aload 0, .getstatic 128, .aload 1, .invokeinterface 14 34, .aload 0, .getstatic 128, .iload 3, .putfield 66, .aload 0, .getstatic 128, .iload 2, .invokeinterface 28 34, .aload 0, .getstatic 128, .getfield 68, .ifCond .ne 44, .iload 3, .ireturn]
def tX4_leastPassingProof : Bt := [(0, kX4_leastPassingProof_0), (2, kX4_leastPassingProof_2), (44, kX4_leastPassingProof_44), (50, kX4_leastPassingProof_50)]
theorem tX4_leastPassingProof_0 : tb tX4_leastPassingProof 0 = kX4_leastPassingProof_0 := rfl
theorem tX4_leastPassingProof_2 : tb tX4_leastPassingProof 2 = kX4_leastPassingProof_2 := rfl
theorem tX4_leastPassingProof_44 : tb tX4_leastPassingProof 44 = kX4_leastPassingProof_44 := rfl
theorem tX4_leastPassingProof_50 : tb tX4_leastPassingProof 50 = kX4_leastPassingProof_50 := rfl
theorem oX4_leastPassingProof : okT 55 tX4_leastPassingProof = true := by decide +kernel
theorem oX4_leastPassingProof_2 : okB 55 2 hX4_leastPassingProof_2 = true := by decide +kernel
theorem eX4_leastPassingProof {d : Nat} {Q : Qt} {M : Mm} {L : Ml} (a0 : Nat) (a1 : Nat) (a2 : Int32) (h : wpN 55 d tX4_leastPassingProof Q 60 0 [some (.ref a0), some (.ref a1), some (.int a2), none] [] M L) : Good d 55 [.ref a0, .ref a1, .int a2] M L Q :=
  good_of (x := [none]) (mF_pn 55 (by decide)) (mF_cn 55 (by decide)) rfl (by rw [show mL 55 = 4 by decide +kernel]; exact (show 3 ≤ 4 by decide)) rfl (by simp) (wpN_runs oX4_leastPassingProof 60 0 _ _ _ _ h)
abbrev nX4_setsThatSaw : Nat := 56
def kX4_setsThatSaw_0 : List Instr := [.aload 1, .iconst 2, .invokeinterface 21 34, .istore 4, .iconst 0, .istore 5, .iconst 1, .aload 1, .getfield 64, .ishl, .iconst 1, .isub, .istore 6, .iconst 0, .istore 7, .iconst 0, .istore 8, .ret 26]
def kX4_setsThatSaw_26 : List Instr := [.ret 26]
def kX4_setsThatSaw_72 : List Instr := [.iinc 8 1, .goto 26]
def kX4_setsThatSaw_78 : List Instr := [.iload 3, .ifCond .ne 85, .iload 5, .ireturn]
def kX4_setsThatSaw_85 : List Instr := [.iload 5, .ifCond .ne 92, .iconst 0, .ireturn]
def kX4_setsThatSaw_92 : List Instr := [.iload 3, .iconst 1, .if_icmp .ne 102, .iload 6, .goto 104]
def kX4_setsThatSaw_102 : List Instr := [.iload 7, .ireturn]
def kX4_setsThatSaw_104 : List Instr := [.ireturn]
def hX4_setsThatSaw_26 : List Instr := [.iload 8, .iconst 1, .aload 1, .getfield 64, .ishl, .if_icmp .ge 78, .iload 8, .iload 4, .iand, .ifCond .ne 72, .aload 1, .iload 8, .multianewarray 57 2, .iload 2, .if_icmp .ne 72, .iinc 5 1, .iload 6, .iload 8, .iand, .istore 6, .iload 7, .iload 8, .ior, .istore 7, .iinc 8 1, .goto 26]
def tX4_setsThatSaw : Bt := [(0, kX4_setsThatSaw_0), (26, kX4_setsThatSaw_26), (72, kX4_setsThatSaw_72), (78, kX4_setsThatSaw_78), (85, kX4_setsThatSaw_85), (92, kX4_setsThatSaw_92), (102, kX4_setsThatSaw_102), (104, kX4_setsThatSaw_104)]
theorem tX4_setsThatSaw_0 : tb tX4_setsThatSaw 0 = kX4_setsThatSaw_0 := rfl
theorem tX4_setsThatSaw_26 : tb tX4_setsThatSaw 26 = kX4_setsThatSaw_26 := rfl
theorem tX4_setsThatSaw_72 : tb tX4_setsThatSaw 72 = kX4_setsThatSaw_72 := rfl
theorem tX4_setsThatSaw_78 : tb tX4_setsThatSaw 78 = kX4_setsThatSaw_78 := rfl
theorem tX4_setsThatSaw_85 : tb tX4_setsThatSaw 85 = kX4_setsThatSaw_85 := rfl
theorem tX4_setsThatSaw_92 : tb tX4_setsThatSaw 92 = kX4_setsThatSaw_92 := rfl
theorem tX4_setsThatSaw_102 : tb tX4_setsThatSaw 102 = kX4_setsThatSaw_102 := rfl
theorem tX4_setsThatSaw_104 : tb tX4_setsThatSaw 104 = kX4_setsThatSaw_104 := rfl
theorem oX4_setsThatSaw : okT 56 tX4_setsThatSaw = true := by decide +kernel
theorem oX4_setsThatSaw_26 : okB 56 26 hX4_setsThatSaw_26 = true := by decide +kernel
theorem eX4_setsThatSaw {d : Nat} {Q : Qt} {M : Mm} {L : Ml} (a0 : Nat) (a1 : Nat) (a2 : Int32) (a3 : Int32) (h : wpN 56 d tX4_setsThatSaw Q 60 0 [some (.ref a0), some (.ref a1), some (.int a2), some (.int a3), none, none, none, none, none] [] M L) : Good d 56 [.ref a0, .ref a1, .int a2, .int a3] M L Q :=
  good_of (x := [none, none, none, none, none]) (mF_pn 56 (by decide)) (mF_cn 56 (by decide)) rfl (by rw [show mL 56 = 9 by decide +kernel]; exact (show 4 ≤ 9 by decide)) rfl (by simp) (wpN_runs oX4_setsThatSaw 60 0 _ _ _ _ h)
abbrev nX4_sawTogether : Nat := 57
def kX4_sawTogether_0 : List Instr := [.iconst 0, .istore 2, .iconst 0, .istore 3, .ret 4]
def kX4_sawTogether_4 : List Instr := [.ret 4]
def kX4_sawTogether_30 : List Instr := [.iinc 3 1, .goto 4]
def kX4_sawTogether_36 : List Instr := [.iload 2, .ireturn]
def hX4_sawTogether_4 : List Instr := [.iload 3, .aload 0, .getfield 64, .if_icmp .ge 36, .iload 1, .iload 3, .ishr, .iconst 1, .iand, .iconst 1, .if_icmp .ne 30, .iload 2, .aload 0, .getstatic 75, .iload 3, .iaload, .iadd, .istore 2, .iinc 3 1, .goto 4]
def tX4_sawTogether : Bt := [(0, kX4_sawTogether_0), (4, kX4_sawTogether_4), (30, kX4_sawTogether_30), (36, kX4_sawTogether_36)]
theorem tX4_sawTogether_0 : tb tX4_sawTogether 0 = kX4_sawTogether_0 := rfl
theorem tX4_sawTogether_4 : tb tX4_sawTogether 4 = kX4_sawTogether_4 := rfl
theorem tX4_sawTogether_30 : tb tX4_sawTogether 30 = kX4_sawTogether_30 := rfl
theorem tX4_sawTogether_36 : tb tX4_sawTogether 36 = kX4_sawTogether_36 := rfl
theorem oX4_sawTogether : okT 57 tX4_sawTogether = true := by decide +kernel
theorem oX4_sawTogether_4 : okB 57 4 hX4_sawTogether_4 = true := by decide +kernel
theorem eX4_sawTogether {d : Nat} {Q : Qt} {M : Mm} {L : Ml} (a0 : Nat) (a1 : Int32) (h : wpN 57 d tX4_sawTogether Q 60 0 [some (.ref a0), some (.int a1), none, none] [] M L) : Good d 57 [.ref a0, .int a1] M L Q :=
  good_of (x := [none, none]) (mF_pn 57 (by decide)) (mF_cn 57 (by decide)) rfl (by rw [show mL 57 = 4 by decide +kernel]; exact (show 2 ≤ 4 by decide)) rfl (by simp) (wpN_runs oX4_sawTogether 60 0 _ _ _ _ h)
abbrev nX4_partOf : Nat := 58
def kX4_partOf_0 : List Instr := [.aload 1, .invokeinterface 24 33, .istore 4, .iload 4, .ifCond .le 20, .aload 1, .getstatic 75, .iload 2, .iaload, .ifCond .ne 22, .iconst 0, .ireturn]
def kX4_partOf_20 : List Instr := [.iconst 0, .ireturn]
def kX4_partOf_22 : List Instr := [.iload 3, .istore 5, .iconst 0, .istore 6, .iconst 0, .istore 7, .ret 31]
def kX4_partOf_31 : List Instr := [.ret 31]
def kX4_partOf_76 : List Instr := [.iinc 7 1, .goto 31]
def kX4_partOf_82 : List Instr := [.iload 3, .aload 1, .getstatic 75, .iload 2, .iaload, .imul, .iload 4, .idiv, .iload 6, .iload 5, .if_icmp .ge 104, .iconst 1, .goto 105]
def kX4_partOf_104 : List Instr := [.iconst 0, .iadd, .ireturn]
def kX4_partOf_105 : List Instr := [.iadd, .ireturn]
def hX4_partOf_31 : List Instr := [.iload 7, .aload 1, .getfield 64, .if_icmp .ge 82, .iload 5, .iload 3, .aload 1, .getstatic 75, .iload 7, .iaload, .imul, .iload 4, .idiv, .isub, .istore 5, .iload 7, .iload 2, .if_icmp .ge 76, .aload 1, .getstatic 75, .iload 7, .iaload, .ifCond .le 76, .iinc 6 1, .iinc 7 1, .goto 31]
def tX4_partOf : Bt := [(0, kX4_partOf_0), (20, kX4_partOf_20), (22, kX4_partOf_22), (31, kX4_partOf_31), (76, kX4_partOf_76), (82, kX4_partOf_82), (104, kX4_partOf_104), (105, kX4_partOf_105)]
theorem tX4_partOf_0 : tb tX4_partOf 0 = kX4_partOf_0 := rfl
theorem tX4_partOf_20 : tb tX4_partOf 20 = kX4_partOf_20 := rfl
theorem tX4_partOf_22 : tb tX4_partOf 22 = kX4_partOf_22 := rfl
theorem tX4_partOf_31 : tb tX4_partOf 31 = kX4_partOf_31 := rfl
theorem tX4_partOf_76 : tb tX4_partOf 76 = kX4_partOf_76 := rfl
theorem tX4_partOf_82 : tb tX4_partOf 82 = kX4_partOf_82 := rfl
theorem tX4_partOf_104 : tb tX4_partOf 104 = kX4_partOf_104 := rfl
theorem tX4_partOf_105 : tb tX4_partOf 105 = kX4_partOf_105 := rfl
theorem oX4_partOf : okT 58 tX4_partOf = true := by decide +kernel
theorem oX4_partOf_31 : okB 58 31 hX4_partOf_31 = true := by decide +kernel
theorem eX4_partOf {d : Nat} {Q : Qt} {M : Mm} {L : Ml} (a0 : Nat) (a1 : Nat) (a2 : Int32) (a3 : Int32) (h : wpN 58 d tX4_partOf Q 60 0 [some (.ref a0), some (.ref a1), some (.int a2), some (.int a3), none, none, none, none] [] M L) : Good d 58 [.ref a0, .ref a1, .int a2, .int a3] M L Q :=
  good_of (x := [none, none, none, none]) (mF_pn 58 (by decide)) (mF_cn 58 (by decide)) rfl (by rw [show mL 58 = 8 by decide +kernel]; exact (show 4 ≤ 8 by decide)) rfl (by simp) (wpN_runs oX4_partOf 60 0 _ _ _ _ h)
abbrev nX4_whatComesOfTurns : Nat := 59
def kX4_whatComesOfTurns_0 : List Instr := [.aload 0, .getstatic 129, .aload 1, .invokeinterface 14 34, .aload 0, .getstatic 129, .aload 0, .getstatic 128, .iconst 0, .iload 2, .iload 3, .multianewarray 60 5, .ireturn]
def tX4_whatComesOfTurns : Bt := [(0, kX4_whatComesOfTurns_0)]
theorem tX4_whatComesOfTurns_0 : tb tX4_whatComesOfTurns 0 = kX4_whatComesOfTurns_0 := rfl
theorem oX4_whatComesOfTurns : okT 59 tX4_whatComesOfTurns = true := by decide +kernel
theorem eX4_whatComesOfTurns {d : Nat} {Q : Qt} {M : Mm} {L : Ml} (a0 : Nat) (a1 : Nat) (a2 : Int32) (a3 : Int32) (h : wpN 59 d tX4_whatComesOfTurns Q 60 0 [some (.ref a0), some (.ref a1), some (.int a2), some (.int a3)] [] M L) : Good d 59 [.ref a0, .ref a1, .int a2, .int a3] M L Q :=
  good_of (x := []) (mF_pn 59 (by decide)) (mF_cn 59 (by decide)) rfl (by rw [show mL 59 = 4 by decide +kernel]; exact (show 4 ≤ 4 by decide)) rfl (by simp) (wpN_runs oX4_whatComesOfTurns 60 0 _ _ _ _ h)
abbrev nX4_outcomeOfTurns : Nat := 60
def kX4_outcomeOfTurns_0 : List Instr := [.iload 2, .iload 3, .if_icmp .ge 10, .iload 2, .iconst 3, .if_icmp .lt 40, .aload 1, .aload 0, .invokeinterface 14 34, .iconst 0, .istore 5, .ret 18]
def kX4_outcomeOfTurns_10 : List Instr := [.aload 1, .aload 0, .invokeinterface 14 34, .iconst 0, .istore 5, .ret 18]
def kX4_outcomeOfTurns_18 : List Instr := [.ret 18]
def kX4_outcomeOfTurns_35 : List Instr := [.aload 1, .invokeinterface 22 33, .ireturn]
def kX4_outcomeOfTurns_40 : List Instr := [.iload 2, .iconst 2, .irem, .ifCond .ne 50, .iconst 1, .goto 51]
def kX4_outcomeOfTurns_50 : List Instr := [.iconst 0, .istore 5, .iload 5, .ifCond .eq 65, .aload 0, .getfield 65, .goto 73]
def kX4_outcomeOfTurns_51 : List Instr := [.istore 5, .iload 5, .ifCond .eq 65, .aload 0, .getfield 65, .goto 73]
def kX4_outcomeOfTurns_65 : List Instr := [.aload 0, .aload 0, .getfield 65, .invokeinterface 19 34, .istore 6, .aload 0, .aload 1, .iload 2, .iconst 1, .iadd, .iload 3, .iload 4, .multianewarray 60 5, .istore 7, .aload 0, .iload 6, .invokeinterface 17 34, .ifCond .eq 108, .aload 0, .getstatic 73, .iload 6, .iaload, .iconst 2, .if_icmp .ne 111, .iload 7, .ireturn]
def kX4_outcomeOfTurns_73 : List Instr := [.istore 6, .aload 0, .aload 1, .iload 2, .iconst 1, .iadd, .iload 3, .iload 4, .multianewarray 60 5, .istore 7, .aload 0, .iload 6, .invokeinterface 17 34, .ifCond .eq 108, .aload 0, .getstatic 73, .iload 6, .iaload, .iconst 2, .if_icmp .ne 111, .iload 7, .ireturn]
def kX4_outcomeOfTurns_108 : List Instr := [.iload 7, .ireturn]
def kX4_outcomeOfTurns_111 : List Instr := [.aload 0, .getstatic 71, .iload 6, .iaload, .istore 8, .iconst 0, .istore 9, .ret 123]
def kX4_outcomeOfTurns_123 : List Instr := [.ret 123]
def kX4_outcomeOfTurns_183 : List Instr := [.iload 7, .iload 10, .ddiv, .istore 7, .iinc 9 1, .goto 123]
def kX4_outcomeOfTurns_190 : List Instr := [.istore 7, .iinc 9 1, .goto 123]
def kX4_outcomeOfTurns_192 : List Instr := [.iinc 9 1, .goto 123]
def kX4_outcomeOfTurns_198 : List Instr := [.aload 0, .getstatic 71, .iload 6, .iload 8, .iastore, .iload 7, .ireturn]
def hX4_outcomeOfTurns_18 : List Instr := [.iload 5, .iload 4, .if_icmp .ge 35, .aload 1, .invokeinterface 29 33, .iinc 5 1, .goto 18]
def hX4_outcomeOfTurns_123 : List Instr := [.iload 9, .aload 0, .getfield 64, .if_icmp .ge 198, .iload 9, .iload 6, .if_icmp .eq 192, .iload 9, .iload 8, .if_icmp .eq 192, .aload 0, .getstatic 71, .iload 6, .iload 9, .iastore, .aload 0, .aload 1, .iload 2, .iconst 1, .iadd, .iload 3, .iload 4, .multianewarray 60 5, .istore 10, .iload 5, .ifCond .eq 183, .iload 7, .iload 10, .dmul, .goto 190]
def tX4_outcomeOfTurns : Bt := [(0, kX4_outcomeOfTurns_0), (10, kX4_outcomeOfTurns_10), (18, kX4_outcomeOfTurns_18), (35, kX4_outcomeOfTurns_35), (40, kX4_outcomeOfTurns_40), (50, kX4_outcomeOfTurns_50), (51, kX4_outcomeOfTurns_51), (65, kX4_outcomeOfTurns_65), (73, kX4_outcomeOfTurns_73), (108, kX4_outcomeOfTurns_108), (111, kX4_outcomeOfTurns_111), (123, kX4_outcomeOfTurns_123), (183, kX4_outcomeOfTurns_183), (190, kX4_outcomeOfTurns_190), (192, kX4_outcomeOfTurns_192), (198, kX4_outcomeOfTurns_198)]
theorem tX4_outcomeOfTurns_0 : tb tX4_outcomeOfTurns 0 = kX4_outcomeOfTurns_0 := rfl
theorem tX4_outcomeOfTurns_10 : tb tX4_outcomeOfTurns 10 = kX4_outcomeOfTurns_10 := rfl
theorem tX4_outcomeOfTurns_18 : tb tX4_outcomeOfTurns 18 = kX4_outcomeOfTurns_18 := rfl
theorem tX4_outcomeOfTurns_35 : tb tX4_outcomeOfTurns 35 = kX4_outcomeOfTurns_35 := rfl
theorem tX4_outcomeOfTurns_40 : tb tX4_outcomeOfTurns 40 = kX4_outcomeOfTurns_40 := rfl
theorem tX4_outcomeOfTurns_50 : tb tX4_outcomeOfTurns 50 = kX4_outcomeOfTurns_50 := rfl
theorem tX4_outcomeOfTurns_51 : tb tX4_outcomeOfTurns 51 = kX4_outcomeOfTurns_51 := rfl
theorem tX4_outcomeOfTurns_65 : tb tX4_outcomeOfTurns 65 = kX4_outcomeOfTurns_65 := rfl
theorem tX4_outcomeOfTurns_73 : tb tX4_outcomeOfTurns 73 = kX4_outcomeOfTurns_73 := rfl
theorem tX4_outcomeOfTurns_108 : tb tX4_outcomeOfTurns 108 = kX4_outcomeOfTurns_108 := rfl
theorem tX4_outcomeOfTurns_111 : tb tX4_outcomeOfTurns 111 = kX4_outcomeOfTurns_111 := rfl
theorem tX4_outcomeOfTurns_123 : tb tX4_outcomeOfTurns 123 = kX4_outcomeOfTurns_123 := rfl
theorem tX4_outcomeOfTurns_183 : tb tX4_outcomeOfTurns 183 = kX4_outcomeOfTurns_183 := rfl
theorem tX4_outcomeOfTurns_190 : tb tX4_outcomeOfTurns 190 = kX4_outcomeOfTurns_190 := rfl
theorem tX4_outcomeOfTurns_192 : tb tX4_outcomeOfTurns 192 = kX4_outcomeOfTurns_192 := rfl
theorem tX4_outcomeOfTurns_198 : tb tX4_outcomeOfTurns 198 = kX4_outcomeOfTurns_198 := rfl
theorem oX4_outcomeOfTurns : okT 60 tX4_outcomeOfTurns = true := by decide +kernel
theorem oX4_outcomeOfTurns_18 : okB 60 18 hX4_outcomeOfTurns_18 = true := by decide +kernel
theorem oX4_outcomeOfTurns_123 : okB 60 123 hX4_outcomeOfTurns_123 = true := by decide +kernel
theorem eX4_outcomeOfTurns {d : Nat} {Q : Qt} {M : Mm} {L : Ml} (a0 : Nat) (a1 : Nat) (a2 : Int32) (a3 : Int32) (a4 : Int32) (h : wpN 60 d tX4_outcomeOfTurns Q 60 0 [some (.ref a0), some (.ref a1), some (.int a2), some (.int a3), some (.int a4), none, none, none, none, none, none] [] M L) : Good d 60 [.ref a0, .ref a1, .int a2, .int a3, .int a4] M L Q :=
  good_of (x := [none, none, none, none, none, none]) (mF_pn 60 (by decide)) (mF_cn 60 (by decide)) rfl (by rw [show mL 60 = 11 by decide +kernel]; exact (show 5 ≤ 11 by decide)) rfl (by simp) (wpN_runs oX4_outcomeOfTurns 60 0 _ _ _ _ h)
abbrev nX4_hear : Nat := 61
def kX4_hear_0 : List Instr := [.aload 0, .iconst 0, .putfield 131, .iconst 0, .istore 5, .ret 8]
def kX4_hear_8 : List Instr := [.ret 8]
def kX4_hear_52 : List Instr := [.return_]
def hX4_hear_8 : List Instr := [.iload 5, .iload 4, .if_icmp .ge 52, .iload 5, .iconst 12, .if_icmp .ge 52, .aload 0, .getstatic 130, .iload 5, .aload 1, .iload 2, .iload 3, .iload 5, .iadd, .invokeinterface 39 51, .iastore, .aload 0, .iload 5, .iconst 1, .iadd, .putfield 131, .iinc 5 1, .goto 8]
def tX4_hear : Bt := [(0, kX4_hear_0), (8, kX4_hear_8), (52, kX4_hear_52)]
theorem tX4_hear_0 : tb tX4_hear 0 = kX4_hear_0 := rfl
theorem tX4_hear_8 : tb tX4_hear 8 = kX4_hear_8 := rfl
theorem tX4_hear_52 : tb tX4_hear 52 = kX4_hear_52 := rfl
theorem oX4_hear : okT 61 tX4_hear = true := by decide +kernel
theorem oX4_hear_8 : okB 61 8 hX4_hear_8 = true := by decide +kernel
theorem eX4_hear {d : Nat} {Q : Qt} {M : Mm} {L : Ml} (a0 : Nat) (a1 : Nat) (a2 : Int32) (a3 : Int32) (a4 : Int32) (h : wpN 61 d tX4_hear Q 60 0 [some (.ref a0), some (.ref a1), some (.int a2), some (.int a3), some (.int a4), none] [] M L) : Good d 61 [.ref a0, .ref a1, .int a2, .int a3, .int a4] M L Q :=
  good_of (x := [none]) (mF_pn 61 (by decide)) (mF_cn 61 (by decide)) rfl (by rw [show mL 61 = 6 by decide +kernel]; exact (show 5 ≤ 6 by decide)) rfl (by simp) (wpN_runs oX4_hear 60 0 _ _ _ _ h)
abbrev nX4_isAsHeard : Nat := 62
def kX4_isAsHeard_0 : List Instr := [.iconst 0, .istore 1, .ret 2]
def kX4_isAsHeard_2 : List Instr := [.ret 2]
def kX4_isAsHeard_35 : List Instr := [.iinc 1 1, .goto 2]
def kX4_isAsHeard_41 : List Instr := [.iconst 1, .freturn]
def hX4_isAsHeard_2 : List Instr := [.iload 1, .aload 0, .getfield 131, .if_icmp .ge 41, .aload 0, .getstatic 128, .invokeinterface 29 33, .aload 0, .getstatic 128, .invokeinterface 22 33, .aload 0, .getstatic 130, .iload 1, .iaload, .if_icmp .eq 35, .iconst 0, .freturn]
def tX4_isAsHeard : Bt := [(0, kX4_isAsHeard_0), (2, kX4_isAsHeard_2), (35, kX4_isAsHeard_35), (41, kX4_isAsHeard_41)]
theorem tX4_isAsHeard_0 : tb tX4_isAsHeard 0 = kX4_isAsHeard_0 := rfl
theorem tX4_isAsHeard_2 : tb tX4_isAsHeard 2 = kX4_isAsHeard_2 := rfl
theorem tX4_isAsHeard_35 : tb tX4_isAsHeard 35 = kX4_isAsHeard_35 := rfl
theorem tX4_isAsHeard_41 : tb tX4_isAsHeard 41 = kX4_isAsHeard_41 := rfl
theorem oX4_isAsHeard : okT 62 tX4_isAsHeard = true := by decide +kernel
theorem oX4_isAsHeard_2 : okB 62 2 hX4_isAsHeard_2 = true := by decide +kernel
theorem eX4_isAsHeard {d : Nat} {Q : Qt} {M : Mm} {L : Ml} (a0 : Nat) (h : wpN 62 d tX4_isAsHeard Q 60 0 [some (.ref a0), none] [] M L) : Good d 62 [.ref a0] M L Q :=
  good_of (x := [none]) (mF_pn 62 (by decide)) (mF_cn 62 (by decide)) rfl (by rw [show mL 62 = 2 by decide +kernel]; exact (show 1 ≤ 2 by decide)) rfl (by simp) (wpN_runs oX4_isAsHeard 60 0 _ _ _ _ h)
abbrev nX4_fittingMurderers : Nat := 63
def kX4_fittingMurderers_0 : List Instr := [.iconst 0, .istore 2, .iconst 0, .istore 3, .ret 4]
def kX4_fittingMurderers_4 : List Instr := [.ret 4]
def kX4_fittingMurderers_31 : List Instr := [.iinc 3 1, .goto 4]
def kX4_fittingMurderers_37 : List Instr := [.iload 2, .ireturn]
def hX4_fittingMurderers_4 : List Instr := [.iload 3, .aload 1, .getfield 64, .if_icmp .ge 37, .aload 0, .aload 1, .iload 3, .invokeinterface 52 67, .aload 0, .invokeinterface 62 65, .ifCond .eq 31, .iload 2, .iconst 1, .iload 3, .ishl, .ior, .istore 2, .iinc 3 1, .goto 4]
def tX4_fittingMurderers : Bt := [(0, kX4_fittingMurderers_0), (4, kX4_fittingMurderers_4), (31, kX4_fittingMurderers_31), (37, kX4_fittingMurderers_37)]
theorem tX4_fittingMurderers_0 : tb tX4_fittingMurderers 0 = kX4_fittingMurderers_0 := rfl
theorem tX4_fittingMurderers_4 : tb tX4_fittingMurderers 4 = kX4_fittingMurderers_4 := rfl
theorem tX4_fittingMurderers_31 : tb tX4_fittingMurderers 31 = kX4_fittingMurderers_31 := rfl
theorem tX4_fittingMurderers_37 : tb tX4_fittingMurderers 37 = kX4_fittingMurderers_37 := rfl
theorem oX4_fittingMurderers : okT 63 tX4_fittingMurderers = true := by decide +kernel
theorem oX4_fittingMurderers_4 : okB 63 4 hX4_fittingMurderers_4 = true := by decide +kernel
theorem eX4_fittingMurderers {d : Nat} {Q : Qt} {M : Mm} {L : Ml} (a0 : Nat) (a1 : Nat) (h : wpN 63 d tX4_fittingMurderers Q 60 0 [some (.ref a0), some (.ref a1), none, none] [] M L) : Good d 63 [.ref a0, .ref a1] M L Q :=
  good_of (x := [none, none]) (mF_pn 63 (by decide)) (mF_cn 63 (by decide)) rfl (by rw [show mL 63 = 4 by decide +kernel]; exact (show 2 ≤ 4 by decide)) rfl (by simp) (wpN_runs oX4_fittingMurderers 60 0 _ _ _ _ h)
abbrev nX4_fittingKinds : Nat := 64
def kX4_fittingKinds_0 : List Instr := [.iconst 0, .istore 3, .iconst 1, .istore 4, .ret 5]
def kX4_fittingKinds_5 : List Instr := [.ret 5]
def kX4_fittingKinds_44 : List Instr := [.iinc 4 1, .goto 5]
def kX4_fittingKinds_50 : List Instr := [.iload 3, .ireturn]
def hX4_fittingKinds_5 : List Instr := [.iload 4, .iconst 5, .if_icmp .gt 50, .aload 0, .getstatic 128, .aload 1, .invokeinterface 14 34, .aload 0, .getstatic 128, .getstatic 70, .iload 2, .iload 4, .iastore, .aload 0, .invokeinterface 62 65, .ifCond .eq 44, .iload 3, .iconst 1, .iload 4, .ishl, .ior, .istore 3, .iinc 4 1, .goto 5]
def tX4_fittingKinds : Bt := [(0, kX4_fittingKinds_0), (5, kX4_fittingKinds_5), (44, kX4_fittingKinds_44), (50, kX4_fittingKinds_50)]
theorem tX4_fittingKinds_0 : tb tX4_fittingKinds 0 = kX4_fittingKinds_0 := rfl
theorem tX4_fittingKinds_5 : tb tX4_fittingKinds 5 = kX4_fittingKinds_5 := rfl
theorem tX4_fittingKinds_44 : tb tX4_fittingKinds 44 = kX4_fittingKinds_44 := rfl
theorem tX4_fittingKinds_50 : tb tX4_fittingKinds 50 = kX4_fittingKinds_50 := rfl
theorem oX4_fittingKinds : okT 64 tX4_fittingKinds = true := by decide +kernel
theorem oX4_fittingKinds_5 : okB 64 5 hX4_fittingKinds_5 = true := by decide +kernel
theorem eX4_fittingKinds {d : Nat} {Q : Qt} {M : Mm} {L : Ml} (a0 : Nat) (a1 : Nat) (a2 : Int32) (h : wpN 64 d tX4_fittingKinds Q 60 0 [some (.ref a0), some (.ref a1), some (.int a2), none, none] [] M L) : Good d 64 [.ref a0, .ref a1, .int a2] M L Q :=
  good_of (x := [none, none]) (mF_pn 64 (by decide)) (mF_cn 64 (by decide)) rfl (by rw [show mL 64 = 5 by decide +kernel]; exact (show 3 ≤ 5 by decide)) rfl (by simp) (wpN_runs oX4_fittingKinds 60 0 _ _ _ _ h)
abbrev nX4_fittingLooks : Nat := 65
def kX4_fittingLooks_0 : List Instr := [.iconst 0, .istore 3, .iconst 0, .istore 4, .ret 5]
def kX4_fittingLooks_5 : List Instr := [.ret 5]
def kX4_fittingLooks_53 : List Instr := [.iinc 4 1, .goto 5]
def kX4_fittingLooks_59 : List Instr := [.iload 3, .ireturn]
def hX4_fittingLooks_5 : List Instr := [.iload 4, .aload 1, .getfield 64, .if_icmp .ge 59, .iload 4, .iload 2, .if_icmp .eq 53, .aload 0, .getstatic 128, .aload 1, .invokeinterface 14 34, .aload 0, .getstatic 128, .getstatic 71, .iload 2, .iload 4, .iastore, .aload 0, .invokeinterface 62 65, .ifCond .eq 53, .iload 3, .iconst 1, .iload 4, .ishl, .ior, .istore 3, .iinc 4 1, .goto 5]
def tX4_fittingLooks : Bt := [(0, kX4_fittingLooks_0), (5, kX4_fittingLooks_5), (53, kX4_fittingLooks_53), (59, kX4_fittingLooks_59)]
theorem tX4_fittingLooks_0 : tb tX4_fittingLooks 0 = kX4_fittingLooks_0 := rfl
theorem tX4_fittingLooks_5 : tb tX4_fittingLooks 5 = kX4_fittingLooks_5 := rfl
theorem tX4_fittingLooks_53 : tb tX4_fittingLooks 53 = kX4_fittingLooks_53 := rfl
theorem tX4_fittingLooks_59 : tb tX4_fittingLooks 59 = kX4_fittingLooks_59 := rfl
theorem oX4_fittingLooks : okT 65 tX4_fittingLooks = true := by decide +kernel
theorem oX4_fittingLooks_5 : okB 65 5 hX4_fittingLooks_5 = true := by decide +kernel
theorem eX4_fittingLooks {d : Nat} {Q : Qt} {M : Mm} {L : Ml} (a0 : Nat) (a1 : Nat) (a2 : Int32) (h : wpN 65 d tX4_fittingLooks Q 60 0 [some (.ref a0), some (.ref a1), some (.int a2), none, none] [] M L) : Good d 65 [.ref a0, .ref a1, .int a2] M L Q :=
  good_of (x := [none, none]) (mF_pn 65 (by decide)) (mF_cn 65 (by decide)) rfl (by rw [show mL 65 = 5 by decide +kernel]; exact (show 3 ≤ 5 by decide)) rfl (by simp) (wpN_runs oX4_fittingLooks 60 0 _ _ _ _ h)
abbrev nX4_fittingSlownesses : Nat := 66
def kX4_fittingSlownesses_0 : List Instr := [.iconst 0, .istore 3, .iconst 1, .istore 4, .ret 5]
def kX4_fittingSlownesses_5 : List Instr := [.ret 5]
def kX4_fittingSlownesses_45 : List Instr := [.iinc 4 1, .goto 5]
def kX4_fittingSlownesses_51 : List Instr := [.iload 3, .ireturn]
def hX4_fittingSlownesses_5 : List Instr := [.iload 4, .iconst 9, .if_icmp .gt 51, .aload 0, .getstatic 128, .aload 1, .invokeinterface 14 34, .aload 0, .getstatic 128, .getstatic 72, .iload 2, .iload 4, .iastore, .aload 0, .invokeinterface 62 65, .ifCond .eq 45, .iload 3, .iconst 1, .iload 4, .ishl, .ior, .istore 3, .iinc 4 1, .goto 5]
def tX4_fittingSlownesses : Bt := [(0, kX4_fittingSlownesses_0), (5, kX4_fittingSlownesses_5), (45, kX4_fittingSlownesses_45), (51, kX4_fittingSlownesses_51)]
theorem tX4_fittingSlownesses_0 : tb tX4_fittingSlownesses 0 = kX4_fittingSlownesses_0 := rfl
theorem tX4_fittingSlownesses_5 : tb tX4_fittingSlownesses 5 = kX4_fittingSlownesses_5 := rfl
theorem tX4_fittingSlownesses_45 : tb tX4_fittingSlownesses 45 = kX4_fittingSlownesses_45 := rfl
theorem tX4_fittingSlownesses_51 : tb tX4_fittingSlownesses 51 = kX4_fittingSlownesses_51 := rfl
theorem oX4_fittingSlownesses : okT 66 tX4_fittingSlownesses = true := by decide +kernel
theorem oX4_fittingSlownesses_5 : okB 66 5 hX4_fittingSlownesses_5 = true := by decide +kernel
theorem eX4_fittingSlownesses {d : Nat} {Q : Qt} {M : Mm} {L : Ml} (a0 : Nat) (a1 : Nat) (a2 : Int32) (h : wpN 66 d tX4_fittingSlownesses Q 60 0 [some (.ref a0), some (.ref a1), some (.int a2), none, none] [] M L) : Good d 66 [.ref a0, .ref a1, .int a2] M L Q :=
  good_of (x := [none, none]) (mF_pn 66 (by decide)) (mF_cn 66 (by decide)) rfl (by rw [show mL 66 = 5 by decide +kernel]; exact (show 3 ≤ 5 by decide)) rfl (by simp) (wpN_runs oX4_fittingSlownesses 60 0 _ _ _ _ h)
abbrev nX4_weighSleep : Nat := 67
def kX4_weighSleep_0 : List Instr := [.iconst 1, .aload 1, .getfield 64, .ishl, .iconst 1, .isub, .aload 1, .iconst 2, .invokeinterface 21 34, .iconst (-1), .ixor, .iand, .iconst 1, .aload 1, .getfield 65, .ishl, .iconst (-1), .ixor, .iand, .istore 4, .iload 4, .multianewarray 207 1, .istore 5, .aload 0, .jsr 0, .putstatic 8, .aload 0, .jsr 10, .iload 5, .multianewarray 69 2, .putstatic 9, .iconst 0, .istore 6, .ret 54]
def kX4_weighSleep_54 : List Instr := [.ret 54]
def kX4_weighSleep_134 : List Instr := [.iinc 6 1, .goto 54]
def kX4_weighSleep_140 : List Instr := [.aload 0, .invokeinterface 70 65, .return_]
def hX4_weighSleep_54 : List Instr := [.iload 6, .iconst 1, .aload 1, .getfield 64, .ishl, .if_icmp .ge 140, .iload 6, .iload 4, .iconst (-1), .ixor, .iand, .ifCond .ne 134, .iload 6, .multianewarray 207 1, .istore 7, .iload 3, .i2l, .iload 7, .multianewarray 69 2, .iconst 10, .iload 3, .isub, .i2l, .iload 5, .iload 7, .isub, .multianewarray 69 2, .lmul, .lstore 8, .lload 8, .jsr 0, .lcmp, .ifCond .le 134, .aload 0, .aload 1, .iload 6, .iload 2, .invokeinterface 68 68, .ifCond .eq 134, .aload 0, .dup, .instanceof 8, .lload 8, .ladd, .putstatic 8, .iinc 6 1, .goto 54]
def tX4_weighSleep : Bt := [(0, kX4_weighSleep_0), (54, kX4_weighSleep_54), (134, kX4_weighSleep_134), (140, kX4_weighSleep_140)]
theorem tX4_weighSleep_0 : tb tX4_weighSleep 0 = kX4_weighSleep_0 := rfl
theorem tX4_weighSleep_54 : tb tX4_weighSleep 54 = kX4_weighSleep_54 := rfl
theorem tX4_weighSleep_134 : tb tX4_weighSleep 134 = kX4_weighSleep_134 := rfl
theorem tX4_weighSleep_140 : tb tX4_weighSleep 140 = kX4_weighSleep_140 := rfl
theorem oX4_weighSleep : okT 67 tX4_weighSleep = true := by decide +kernel
theorem oX4_weighSleep_54 : okB 67 54 hX4_weighSleep_54 = true := by decide +kernel
theorem eX4_weighSleep {d : Nat} {Q : Qt} {M : Mm} {L : Ml} (a0 : Nat) (a1 : Nat) (a2 : Int32) (a3 : Int32) (h : wpN 67 d tX4_weighSleep Q 60 0 [some (.ref a0), some (.ref a1), some (.int a2), some (.int a3), none, none, none, none, none, none] [] M L) : Good d 67 [.ref a0, .ref a1, .int a2, .int a3] M L Q :=
  good_of (x := [none, none, none, none, none, none]) (mF_pn 67 (by decide)) (mF_cn 67 (by decide)) rfl (by rw [show mL 67 = 10 by decide +kernel]; exact (show 4 ≤ 10 by decide)) rfl (by simp) (wpN_runs oX4_weighSleep 60 0 _ _ _ _ h)
abbrev nX4_isFoundThough : Nat := 68
def kX4_isFoundThough_0 : List Instr := [.aload 0, .getstatic 128, .aload 1, .invokeinterface 14 34, .aload 0, .getstatic 128, .iload 2, .putfield 69, .iconst 0, .istore 4, .ret 19]
def kX4_isFoundThough_19 : List Instr := [.ret 19]
def kX4_isFoundThough_48 : List Instr := [.aload 0, .getstatic 128, .getfield 68, .freturn]
def hX4_isFoundThough_19 : List Instr := [.iload 4, .iload 3, .if_icmp .ge 48, .aload 0, .getstatic 128, .getfield 68, .ifCond .ne 48, .aload 0, .getstatic 128, .invokeinterface 29 33, .iinc 4 1, .goto 19]
def tX4_isFoundThough : Bt := [(0, kX4_isFoundThough_0), (19, kX4_isFoundThough_19), (48, kX4_isFoundThough_48)]
theorem tX4_isFoundThough_0 : tb tX4_isFoundThough 0 = kX4_isFoundThough_0 := rfl
theorem tX4_isFoundThough_19 : tb tX4_isFoundThough 19 = kX4_isFoundThough_19 := rfl
theorem tX4_isFoundThough_48 : tb tX4_isFoundThough 48 = kX4_isFoundThough_48 := rfl
theorem oX4_isFoundThough : okT 68 tX4_isFoundThough = true := by decide +kernel
theorem oX4_isFoundThough_19 : okB 68 19 hX4_isFoundThough_19 = true := by decide +kernel
theorem eX4_isFoundThough {d : Nat} {Q : Qt} {M : Mm} {L : Ml} (a0 : Nat) (a1 : Nat) (a2 : Int32) (a3 : Int32) (h : wpN 68 d tX4_isFoundThough Q 60 0 [some (.ref a0), some (.ref a1), some (.int a2), some (.int a3), none] [] M L) : Good d 68 [.ref a0, .ref a1, .int a2, .int a3] M L Q :=
  good_of (x := [none]) (mF_pn 68 (by decide)) (mF_cn 68 (by decide)) rfl (by rw [show mL 68 = 5 by decide +kernel]; exact (show 4 ≤ 5 by decide)) rfl (by simp) (wpN_runs oX4_isFoundThough 60 0 _ _ _ _ h)
abbrev nX4_power : Nat := 69
def kX4_power_0 : List Instr := [.jsr 1, .lstore 3, .iconst 0, .istore 5, .ret 5]
def kX4_power_5 : List Instr := [.ret 5]
def kX4_power_21 : List Instr := [.lload 3, .lreturn]
def hX4_power_5 : List Instr := [.iload 5, .iload 2, .if_icmp .ge 21, .lload 3, .lload 0, .lmul, .lstore 3, .iinc 5 1, .goto 5]
def tX4_power : Bt := [(0, kX4_power_0), (5, kX4_power_5), (21, kX4_power_21)]
theorem tX4_power_0 : tb tX4_power 0 = kX4_power_0 := rfl
theorem tX4_power_5 : tb tX4_power 5 = kX4_power_5 := rfl
theorem tX4_power_21 : tb tX4_power 21 = kX4_power_21 := rfl
theorem oX4_power : okT 69 tX4_power = true := by decide +kernel
theorem oX4_power_5 : okB 69 5 hX4_power_5 = true := by decide +kernel
theorem eX4_power {d : Nat} {Q : Qt} {M : Mm} {L : Ml} (a0 : Int64) (a1 : Int32) (h : wpN 69 d tX4_power Q 60 0 [some (.long a0), none, some (.int a1), none, none, none] [] M L) : Good d 69 [.long a0, .int a1] M L Q :=
  good_of (x := [none, none, none]) (mF_pn 69 (by decide)) (mF_cn 69 (by decide)) rfl (by rw [show mL 69 = 6 by decide +kernel]; exact (show 3 ≤ 6 by decide)) rfl (by simp) (wpN_runs oX4_power 60 0 _ _ _ _ h)
abbrev nX4_reduce : Nat := 70
def kX4_reduce_0 : List Instr := [.aload 0, .instanceof 9, .lstore 1, .aload 0, .instanceof 8, .lstore 3, .iconst 0, .istore 5, .ret 13]
def kX4_reduce_13 : List Instr := [.ret 13]
def kX4_reduce_42 : List Instr := [.lload 1, .jsr 0, .lcmp, .ifCond .le 68, .aload 0, .dup, .instanceof 8, .lload 1, .ldiv, .putstatic 8, .aload 0, .dup, .instanceof 9, .lload 1, .ldiv, .putstatic 9, .return_]
def kX4_reduce_68 : List Instr := [.return_]
def hX4_reduce_13 : List Instr := [.iload 5, .iconst 100, .if_icmp .ge 42, .lload 3, .jsr 0, .lcmp, .ifCond .eq 42, .lload 1, .lload 3, .lrem, .lstore 6, .lload 3, .lstore 1, .lload 6, .lstore 3, .iinc 5 1, .goto 13]
def tX4_reduce : Bt := [(0, kX4_reduce_0), (13, kX4_reduce_13), (42, kX4_reduce_42), (68, kX4_reduce_68)]
theorem tX4_reduce_0 : tb tX4_reduce 0 = kX4_reduce_0 := rfl
theorem tX4_reduce_13 : tb tX4_reduce 13 = kX4_reduce_13 := rfl
theorem tX4_reduce_42 : tb tX4_reduce 42 = kX4_reduce_42 := rfl
theorem tX4_reduce_68 : tb tX4_reduce 68 = kX4_reduce_68 := rfl
theorem oX4_reduce : okT 70 tX4_reduce = true := by decide +kernel
theorem oX4_reduce_13 : okB 70 13 hX4_reduce_13 = true := by decide +kernel
theorem eX4_reduce {d : Nat} {Q : Qt} {M : Mm} {L : Ml} (a0 : Nat) (h : wpN 70 d tX4_reduce Q 60 0 [some (.ref a0), none, none, none, none, none, none, none] [] M L) : Good d 70 [.ref a0] M L Q :=
  good_of (x := [none, none, none, none, none, none, none]) (mF_pn 70 (by decide)) (mF_cn 70 (by decide)) rfl (by rw [show mL 70 = 8 by decide +kernel]; exact (show 1 ≤ 8 by decide)) rfl (by simp) (wpN_runs oX4_reduce 60 0 _ _ _ _ h)
abbrev nX4_playDraws : Nat := 71
def kX4_playDraws_0 : List Instr := [.aload 0, .getstatic 128, .aload 1, .invokeinterface 14 34, .aload 0, .iconst 0, .putfield 134, .aload 0, .iconst 0, .putfield 135, .iload 3, .i2l, .lstore 4, .iconst 0, .istore 6, .ret 25]
def kX4_playDraws_25 : List Instr := [.ret 25]
def kX4_playDraws_118 : List Instr := [.iinc 6 1, .goto 25]
def kX4_playDraws_124 : List Instr := [.return_]
def hX4_playDraws_25 : List Instr := [.iload 6, .iload 2, .if_icmp .ge 124, .lload 4, .jsr 16807, .lmul, .jsr 2147483647, .lrem, .lstore 4, .aload 0, .lload 4, .invokeinterface 72 66, .aload 0, .getstatic 128, .invokeinterface 22 33, .istore 7, .aload 0, .getstatic 128, .getfield 68, .istore 8, .aload 0, .getstatic 128, .invokeinterface 29 33, .aload 0, .dup, .getfield 134, .aload 0, .getstatic 128, .invokeinterface 22 33, .iload 7, .isub, .iadd, .putfield 134, .aload 0, .getstatic 128, .getfield 68, .ifCond .eq 118, .iload 8, .ifCond .ne 118, .aload 0, .dup, .getfield 135, .iconst 1, .iadd, .putfield 135, .iinc 6 1, .goto 25]
def tX4_playDraws : Bt := [(0, kX4_playDraws_0), (25, kX4_playDraws_25), (118, kX4_playDraws_118), (124, kX4_playDraws_124)]
theorem tX4_playDraws_0 : tb tX4_playDraws 0 = kX4_playDraws_0 := rfl
theorem tX4_playDraws_25 : tb tX4_playDraws 25 = kX4_playDraws_25 := rfl
theorem tX4_playDraws_118 : tb tX4_playDraws 118 = kX4_playDraws_118 := rfl
theorem tX4_playDraws_124 : tb tX4_playDraws 124 = kX4_playDraws_124 := rfl
theorem oX4_playDraws : okT 71 tX4_playDraws = true := by decide +kernel
theorem oX4_playDraws_25 : okB 71 25 hX4_playDraws_25 = true := by decide +kernel
theorem eX4_playDraws {d : Nat} {Q : Qt} {M : Mm} {L : Ml} (a0 : Nat) (a1 : Nat) (a2 : Int32) (a3 : Int32) (h : wpN 71 d tX4_playDraws Q 60 0 [some (.ref a0), some (.ref a1), some (.int a2), some (.int a3), none, none, none, none, none] [] M L) : Good d 71 [.ref a0, .ref a1, .int a2, .int a3] M L Q :=
  good_of (x := [none, none, none, none, none]) (mF_pn 71 (by decide)) (mF_cn 71 (by decide)) rfl (by rw [show mL 71 = 9 by decide +kernel]; exact (show 4 ≤ 9 by decide)) rfl (by simp) (wpN_runs oX4_playDraws 60 0 _ _ _ _ h)
abbrev nX4_disturb : Nat := 72
def kX4_disturb_0 : List Instr := [.aload 0, .getstatic 128, .getfield 64, .ifCond .gt 11, .return_]
def kX4_disturb_11 : List Instr := [.lload 1, .aload 0, .getstatic 128, .getfield 64, .i2l, .lrem, .l2i, .istore 3, .aload 0, .getstatic 128, .getstatic 73, .iload 3, .iaload, .iconst 2, .if_icmp .ne 47, .aload 0, .getstatic 128, .iload 3, .invokeinterface 26 34, .goto 91]
def kX4_disturb_47 : List Instr := [.lload 1, .jsr 3, .lrem, .jsr 0, .lcmp, .ifCond .ne 91, .lload 1, .jsr 8, .ldiv, .aload 0, .getstatic 128, .getfield 64, .i2l, .lrem, .l2i, .istore 4, .iload 4, .iload 3, .if_icmp .eq 91, .aload 0, .getstatic 128, .getstatic 71, .iload 3, .iload 4, .iastore, .aload 0, .getstatic 128, .getfield 68, .ifCond .eq 109, .aload 0, .getstatic 128, .iload 3, .invokeinterface 25 34, .return_]
def kX4_disturb_91 : List Instr := [.aload 0, .getstatic 128, .getfield 68, .ifCond .eq 109, .aload 0, .getstatic 128, .iload 3, .invokeinterface 25 34, .return_]
def kX4_disturb_109 : List Instr := [.return_]
def tX4_disturb : Bt := [(0, kX4_disturb_0), (11, kX4_disturb_11), (47, kX4_disturb_47), (91, kX4_disturb_91), (109, kX4_disturb_109)]
theorem tX4_disturb_0 : tb tX4_disturb 0 = kX4_disturb_0 := rfl
theorem tX4_disturb_11 : tb tX4_disturb 11 = kX4_disturb_11 := rfl
theorem tX4_disturb_47 : tb tX4_disturb 47 = kX4_disturb_47 := rfl
theorem tX4_disturb_91 : tb tX4_disturb 91 = kX4_disturb_91 := rfl
theorem tX4_disturb_109 : tb tX4_disturb 109 = kX4_disturb_109 := rfl
theorem oX4_disturb : okT 72 tX4_disturb = true := by decide +kernel
theorem eX4_disturb {d : Nat} {Q : Qt} {M : Mm} {L : Ml} (a0 : Nat) (a1 : Int64) (h : wpN 72 d tX4_disturb Q 60 0 [some (.ref a0), some (.long a1), none, none, none] [] M L) : Good d 72 [.ref a0, .long a1] M L Q :=
  good_of (x := [none, none]) (mF_pn 72 (by decide)) (mF_cn 72 (by decide)) rfl (by rw [show mL 72 = 5 by decide +kernel]; exact (show 3 ≤ 5 by decide)) rfl (by simp) (wpN_runs oX4_disturb 60 0 _ _ _ _ h)
abbrev nX5_isFull : Nat := 73
def kX5_isFull_0 : List Instr := [.aload 0, .getfield 161, .iconst 100, .if_icmp .lt 13, .iconst 1, .goto 14]
def kX5_isFull_13 : List Instr := [.iconst 0, .freturn]
def kX5_isFull_14 : List Instr := [.freturn]
def tX5_isFull : Bt := [(0, kX5_isFull_0), (13, kX5_isFull_13), (14, kX5_isFull_14)]
theorem tX5_isFull_0 : tb tX5_isFull 0 = kX5_isFull_0 := rfl
theorem tX5_isFull_13 : tb tX5_isFull 13 = kX5_isFull_13 := rfl
theorem tX5_isFull_14 : tb tX5_isFull 14 = kX5_isFull_14 := rfl
theorem oX5_isFull : okT 73 tX5_isFull = true := by decide +kernel
theorem eX5_isFull {d : Nat} {Q : Qt} {M : Mm} {L : Ml} (a0 : Nat) (h : wpN 73 d tX5_isFull Q 60 0 [some (.ref a0)] [] M L) : Good d 73 [.ref a0] M L Q :=
  good_of (x := []) (mF_pn 73 (by decide)) (mF_cn 73 (by decide)) rfl (by rw [show mL 73 = 1 by decide +kernel]; exact (show 1 ≤ 1 by decide)) rfl (by simp) (wpN_runs oX5_isFull 60 0 _ _ _ _ h)
abbrev nX5_size : Nat := 74
def kX5_size_0 : List Instr := [.aload 0, .getfield 161, .ireturn]
def tX5_size : Bt := [(0, kX5_size_0)]
theorem tX5_size_0 : tb tX5_size 0 = kX5_size_0 := rfl
theorem oX5_size : okT 74 tX5_size = true := by decide +kernel
theorem eX5_size {d : Nat} {Q : Qt} {M : Mm} {L : Ml} (a0 : Nat) (h : wpN 74 d tX5_size Q 60 0 [some (.ref a0)] [] M L) : Good d 74 [.ref a0] M L Q :=
  good_of (x := []) (mF_pn 74 (by decide)) (mF_cn 74 (by decide)) rfl (by rw [show mL 74 = 1 by decide +kernel]; exact (show 1 ≤ 1 by decide)) rfl (by simp) (wpN_runs oX5_size 60 0 _ _ _ _ h)
abbrev nX5_add : Nat := 75
def kX5_add_0 : List Instr := [.aload 0, .getstatic 160, .aload 0, .getfield 161, .iload 1, .iastore, .aload 0, .dup, .getfield 161, .iconst 1, .iadd, .putfield 161, .aload 0, .getfield 161, .ireturn]
def tX5_add : Bt := [(0, kX5_add_0)]
theorem tX5_add_0 : tb tX5_add 0 = kX5_add_0 := rfl
theorem oX5_add : okT 75 tX5_add = true := by decide +kernel
theorem eX5_add {d : Nat} {Q : Qt} {M : Mm} {L : Ml} (a0 : Nat) (a1 : Int32) (h : wpN 75 d tX5_add Q 60 0 [some (.ref a0), some (.int a1)] [] M L) : Good d 75 [.ref a0, .int a1] M L Q :=
  good_of (x := []) (mF_pn 75 (by decide)) (mF_cn 75 (by decide)) rfl (by rw [show mL 75 = 2 by decide +kernel]; exact (show 2 ≤ 2 by decide)) rfl (by simp) (wpN_runs oX5_add 60 0 _ _ _ _ h)
abbrev nX5_clear : Nat := 76
def kX5_clear_0 : List Instr := [.aload 0, .iconst 0, .putfield 161, .return_]
def tX5_clear : Bt := [(0, kX5_clear_0)]
theorem tX5_clear_0 : tb tX5_clear 0 = kX5_clear_0 := rfl
theorem oX5_clear : okT 76 tX5_clear = true := by decide +kernel
theorem eX5_clear {d : Nat} {Q : Qt} {M : Mm} {L : Ml} (a0 : Nat) (h : wpN 76 d tX5_clear Q 60 0 [some (.ref a0)] [] M L) : Good d 76 [.ref a0] M L Q :=
  good_of (x := []) (mF_pn 76 (by decide)) (mF_cn 76 (by decide)) rfl (by rw [show mL 76 = 1 by decide +kernel]; exact (show 1 ≤ 1 by decide)) rfl (by simp) (wpN_runs oX5_clear 60 0 _ _ _ _ h)
abbrev nX5_place : Nat := 77
def kX5_place_0 : List Instr := [.aload 0, .getfield 162, .ireturn]
def tX5_place : Bt := [(0, kX5_place_0)]
theorem tX5_place_0 : tb tX5_place 0 = kX5_place_0 := rfl
theorem oX5_place : okT 77 tX5_place = true := by decide +kernel
theorem eX5_place {d : Nat} {Q : Qt} {M : Mm} {L : Ml} (a0 : Nat) (h : wpN 77 d tX5_place Q 60 0 [some (.ref a0)] [] M L) : Good d 77 [.ref a0] M L Q :=
  good_of (x := []) (mF_pn 77 (by decide)) (mF_cn 77 (by decide)) rfl (by rw [show mL 77 = 1 by decide +kernel]; exact (show 1 ≤ 1 by decide)) rfl (by simp) (wpN_runs oX5_place 60 0 _ _ _ _ h)
abbrev nX5_readInto : Nat := 78
def kX5_readInto_0 : List Instr := [.aload 0, .iconst 0, .putfield 162, .aload 0, .iconst 0, .putfield 163, .aload 1, .invokeinterface 13 33, .aload 0, .iconst 119, .invokeinterface 81 82, .aload 1, .aload 0, .iconst 0, .iconst 7, .invokeinterface 82 83, .putfield 65, .aload 0, .iconst 44, .invokeinterface 81 82, .aload 1, .aload 0, .iconst 1, .iconst 9, .invokeinterface 82 83, .putfield 66, .aload 0, .iconst 59, .invokeinterface 81 82, .iconst 0, .istore 2, .ret 56]
def kX5_readInto_56 : List Instr := [.ret 56]
def kX5_readInto_92 : List Instr := [.aload 0, .getfield 163, .ifCond .ne 112, .aload 1, .getfield 64, .iconst 3, .if_icmp .ge 112, .aload 0, .iconst 1, .putfield 163, .aload 0, .getfield 163, .ifCond .ne 123, .aload 1, .invokeinterface 15 33, .aload 0, .getfield 163, .ireturn]
def kX5_readInto_112 : List Instr := [.aload 0, .getfield 163, .ifCond .ne 123, .aload 1, .invokeinterface 15 33, .aload 0, .getfield 163, .ireturn]
def kX5_readInto_123 : List Instr := [.aload 0, .getfield 163, .ireturn]
def hX5_readInto_56 : List Instr := [.iload 2, .iconst 8, .if_icmp .gt 92, .aload 0, .getfield 163, .ifCond .ne 92, .aload 0, .getfield 162, .aload 0, .getfield 161, .if_icmp .ge 92, .aload 0, .aload 1, .iload 2, .invokeinterface 79 83, .iinc 2 1, .goto 56]
def tX5_readInto : Bt := [(0, kX5_readInto_0), (56, kX5_readInto_56), (92, kX5_readInto_92), (112, kX5_readInto_112), (123, kX5_readInto_123)]
theorem tX5_readInto_0 : tb tX5_readInto 0 = kX5_readInto_0 := rfl
theorem tX5_readInto_56 : tb tX5_readInto 56 = kX5_readInto_56 := rfl
theorem tX5_readInto_92 : tb tX5_readInto 92 = kX5_readInto_92 := rfl
theorem tX5_readInto_112 : tb tX5_readInto 112 = kX5_readInto_112 := rfl
theorem tX5_readInto_123 : tb tX5_readInto 123 = kX5_readInto_123 := rfl
theorem oX5_readInto : okT 78 tX5_readInto = true := by decide +kernel
theorem oX5_readInto_56 : okB 78 56 hX5_readInto_56 = true := by decide +kernel
theorem eX5_readInto {d : Nat} {Q : Qt} {M : Mm} {L : Ml} (a0 : Nat) (a1 : Nat) (h : wpN 78 d tX5_readInto Q 60 0 [some (.ref a0), some (.ref a1), none] [] M L) : Good d 78 [.ref a0, .ref a1] M L Q :=
  good_of (x := [none]) (mF_pn 78 (by decide)) (mF_cn 78 (by decide)) rfl (by rw [show mL 78 = 3 by decide +kernel]; exact (show 2 ≤ 3 by decide)) rfl (by simp) (wpN_runs oX5_readInto 60 0 _ _ _ _ h)
abbrev nX5_readPlayer : Nat := 79
def kX5_readPlayer_0 : List Instr := [.aload 0, .getstatic 160, .aload 0, .getfield 162, .iaload, .multianewarray 80 1, .istore 3, .iload 3, .ifCond .ne 23, .aload 0, .iconst 1, .putfield 163, .return_]
def kX5_readPlayer_23 : List Instr := [.iload 2, .iconst 8, .if_icmp .lt 35, .aload 0, .iconst 3, .putfield 163, .return_]
def kX5_readPlayer_35 : List Instr := [.aload 0, .dup, .getfield 162, .iconst 1, .iadd, .putfield 162, .aload 1, .getstatic 70, .iload 2, .iload 3, .iastore, .aload 1, .getstatic 71, .iload 2, .aload 0, .iconst 0, .iconst 7, .invokeinterface 82 83, .iastore, .aload 0, .iconst 44, .invokeinterface 81 82, .aload 1, .getstatic 72, .iload 2, .aload 0, .iconst 1, .iconst 9, .invokeinterface 82 83, .iastore, .aload 0, .iconst 59, .invokeinterface 81 82, .aload 1, .iload 2, .iconst 1, .iadd, .putfield 64, .return_]
def tX5_readPlayer : Bt := [(0, kX5_readPlayer_0), (23, kX5_readPlayer_23), (35, kX5_readPlayer_35)]
theorem tX5_readPlayer_0 : tb tX5_readPlayer 0 = kX5_readPlayer_0 := rfl
theorem tX5_readPlayer_23 : tb tX5_readPlayer 23 = kX5_readPlayer_23 := rfl
theorem tX5_readPlayer_35 : tb tX5_readPlayer 35 = kX5_readPlayer_35 := rfl
theorem oX5_readPlayer : okT 79 tX5_readPlayer = true := by decide +kernel
theorem eX5_readPlayer {d : Nat} {Q : Qt} {M : Mm} {L : Ml} (a0 : Nat) (a1 : Nat) (a2 : Int32) (h : wpN 79 d tX5_readPlayer Q 60 0 [some (.ref a0), some (.ref a1), some (.int a2), none] [] M L) : Good d 79 [.ref a0, .ref a1, .int a2] M L Q :=
  good_of (x := [none]) (mF_pn 79 (by decide)) (mF_cn 79 (by decide)) rfl (by rw [show mL 79 = 4 by decide +kernel]; exact (show 3 ≤ 4 by decide)) rfl (by simp) (wpN_runs oX5_readPlayer 60 0 _ _ _ _ h)
abbrev nX5_sortOf : Nat := 80
def kX5_sortOf_0 : List Instr := [.iload 0, .lookupswitch 62 #[(98, 56), (100, 60), (104, 58), (114, 52), (115, 54)]]
def kX5_sortOf_52 : List Instr := [.iconst 1, .ireturn]
def kX5_sortOf_54 : List Instr := [.iconst 2, .ireturn]
def kX5_sortOf_56 : List Instr := [.iconst 3, .ireturn]
def kX5_sortOf_58 : List Instr := [.iconst 4, .ireturn]
def kX5_sortOf_60 : List Instr := [.iconst 5, .ireturn]
def kX5_sortOf_62 : List Instr := [.iconst 0, .ireturn]
def tX5_sortOf : Bt := [(0, kX5_sortOf_0), (52, kX5_sortOf_52), (54, kX5_sortOf_54), (56, kX5_sortOf_56), (58, kX5_sortOf_58), (60, kX5_sortOf_60), (62, kX5_sortOf_62)]
theorem tX5_sortOf_0 : tb tX5_sortOf 0 = kX5_sortOf_0 := rfl
theorem tX5_sortOf_52 : tb tX5_sortOf 52 = kX5_sortOf_52 := rfl
theorem tX5_sortOf_54 : tb tX5_sortOf 54 = kX5_sortOf_54 := rfl
theorem tX5_sortOf_56 : tb tX5_sortOf 56 = kX5_sortOf_56 := rfl
theorem tX5_sortOf_58 : tb tX5_sortOf 58 = kX5_sortOf_58 := rfl
theorem tX5_sortOf_60 : tb tX5_sortOf 60 = kX5_sortOf_60 := rfl
theorem tX5_sortOf_62 : tb tX5_sortOf 62 = kX5_sortOf_62 := rfl
theorem oX5_sortOf : okT 80 tX5_sortOf = true := by decide +kernel
theorem eX5_sortOf {d : Nat} {Q : Qt} {M : Mm} {L : Ml} (a0 : Int32) (h : wpN 80 d tX5_sortOf Q 60 0 [some (.int a0)] [] M L) : Good d 80 [.int a0] M L Q :=
  good_of (x := []) (mF_pn 80 (by decide)) (mF_cn 80 (by decide)) rfl (by rw [show mL 80 = 1 by decide +kernel]; exact (show 1 ≤ 1 by decide)) rfl (by simp) (wpN_runs oX5_sortOf 60 0 _ _ _ _ h)
abbrev nX5_readSign : Nat := 81
def kX5_readSign_0 : List Instr := [.aload 0, .getfield 163, .ifCond .eq 8, .return_]
def kX5_readSign_8 : List Instr := [.aload 0, .getfield 162, .aload 0, .getfield 161, .if_icmp .ge 32, .aload 0, .getstatic 160, .aload 0, .getfield 162, .iaload, .iload 1, .if_icmp .eq 38, .aload 0, .iconst 1, .putfield 163, .return_]
def kX5_readSign_32 : List Instr := [.aload 0, .iconst 1, .putfield 163, .return_]
def kX5_readSign_38 : List Instr := [.aload 0, .dup, .getfield 162, .iconst 1, .iadd, .putfield 162, .return_]
def tX5_readSign : Bt := [(0, kX5_readSign_0), (8, kX5_readSign_8), (32, kX5_readSign_32), (38, kX5_readSign_38)]
theorem tX5_readSign_0 : tb tX5_readSign 0 = kX5_readSign_0 := rfl
theorem tX5_readSign_8 : tb tX5_readSign 8 = kX5_readSign_8 := rfl
theorem tX5_readSign_32 : tb tX5_readSign 32 = kX5_readSign_32 := rfl
theorem tX5_readSign_38 : tb tX5_readSign 38 = kX5_readSign_38 := rfl
theorem oX5_readSign : okT 81 tX5_readSign = true := by decide +kernel
theorem eX5_readSign {d : Nat} {Q : Qt} {M : Mm} {L : Ml} (a0 : Nat) (a1 : Int32) (h : wpN 81 d tX5_readSign Q 60 0 [some (.ref a0), some (.int a1)] [] M L) : Good d 81 [.ref a0, .int a1] M L Q :=
  good_of (x := []) (mF_pn 81 (by decide)) (mF_cn 81 (by decide)) rfl (by rw [show mL 81 = 2 by decide +kernel]; exact (show 2 ≤ 2 by decide)) rfl (by simp) (wpN_runs oX5_readSign 60 0 _ _ _ _ h)
abbrev nX5_readNumber : Nat := 82
def kX5_readNumber_0 : List Instr := [.aload 0, .getfield 163, .ifCond .eq 9, .iload 1, .ireturn]
def kX5_readNumber_9 : List Instr := [.iconst 0, .istore 3, .iconst 0, .istore 4, .ret 14]
def kX5_readNumber_14 : List Instr := [.ret 14]
def kX5_readNumber_61 : List Instr := [.iload 4, .ifCond .eq 72, .iload 4, .iconst 2, .if_icmp .le 79, .aload 0, .iconst 1, .putfield 163, .iload 1, .ireturn]
def kX5_readNumber_72 : List Instr := [.aload 0, .iconst 1, .putfield 163, .iload 1, .ireturn]
def kX5_readNumber_79 : List Instr := [.iload 3, .iload 1, .if_icmp .lt 89, .iload 3, .iload 2, .if_icmp .le 96, .aload 0, .iconst 2, .putfield 163, .iload 1, .ireturn]
def kX5_readNumber_89 : List Instr := [.aload 0, .iconst 2, .putfield 163, .iload 1, .ireturn]
def kX5_readNumber_96 : List Instr := [.aload 0, .dup, .getfield 162, .iload 4, .iadd, .putfield 162, .iload 3, .ireturn]
def hX5_readNumber_14 : List Instr := [.iload 4, .iconst 2, .if_icmp .gt 61, .aload 0, .aload 0, .getfield 162, .iload 4, .iadd, .invokeinterface 83 82, .ifCond .eq 61, .iload 3, .iconst 10, .imul, .aload 0, .getstatic 160, .aload 0, .getfield 162, .iload 4, .iadd, .iaload, .iadd, .iconst 48, .isub, .istore 3, .iinc 4 1, .goto 14]
def tX5_readNumber : Bt := [(0, kX5_readNumber_0), (9, kX5_readNumber_9), (14, kX5_readNumber_14), (61, kX5_readNumber_61), (72, kX5_readNumber_72), (79, kX5_readNumber_79), (89, kX5_readNumber_89), (96, kX5_readNumber_96)]
theorem tX5_readNumber_0 : tb tX5_readNumber 0 = kX5_readNumber_0 := rfl
theorem tX5_readNumber_9 : tb tX5_readNumber 9 = kX5_readNumber_9 := rfl
theorem tX5_readNumber_14 : tb tX5_readNumber 14 = kX5_readNumber_14 := rfl
theorem tX5_readNumber_61 : tb tX5_readNumber 61 = kX5_readNumber_61 := rfl
theorem tX5_readNumber_72 : tb tX5_readNumber 72 = kX5_readNumber_72 := rfl
theorem tX5_readNumber_79 : tb tX5_readNumber 79 = kX5_readNumber_79 := rfl
theorem tX5_readNumber_89 : tb tX5_readNumber 89 = kX5_readNumber_89 := rfl
theorem tX5_readNumber_96 : tb tX5_readNumber 96 = kX5_readNumber_96 := rfl
theorem oX5_readNumber : okT 82 tX5_readNumber = true := by decide +kernel
theorem oX5_readNumber_14 : okB 82 14 hX5_readNumber_14 = true := by decide +kernel
theorem eX5_readNumber {d : Nat} {Q : Qt} {M : Mm} {L : Ml} (a0 : Nat) (a1 : Int32) (a2 : Int32) (h : wpN 82 d tX5_readNumber Q 60 0 [some (.ref a0), some (.int a1), some (.int a2), none, none] [] M L) : Good d 82 [.ref a0, .int a1, .int a2] M L Q :=
  good_of (x := [none, none]) (mF_pn 82 (by decide)) (mF_cn 82 (by decide)) rfl (by rw [show mL 82 = 5 by decide +kernel]; exact (show 3 ≤ 5 by decide)) rfl (by simp) (wpN_runs oX5_readNumber 60 0 _ _ _ _ h)
abbrev nX5_isFigureAt : Nat := 83
def kX5_isFigureAt_0 : List Instr := [.iload 1, .aload 0, .getfield 161, .if_icmp .ge 34, .aload 0, .getstatic 160, .iload 1, .iaload, .iconst 48, .if_icmp .lt 34, .aload 0, .getstatic 160, .iload 1, .iaload, .iconst 57, .if_icmp .gt 34, .iconst 1, .goto 35]
def kX5_isFigureAt_34 : List Instr := [.iconst 0, .freturn]
def kX5_isFigureAt_35 : List Instr := [.freturn]
def tX5_isFigureAt : Bt := [(0, kX5_isFigureAt_0), (34, kX5_isFigureAt_34), (35, kX5_isFigureAt_35)]
theorem tX5_isFigureAt_0 : tb tX5_isFigureAt 0 = kX5_isFigureAt_0 := rfl
theorem tX5_isFigureAt_34 : tb tX5_isFigureAt 34 = kX5_isFigureAt_34 := rfl
theorem tX5_isFigureAt_35 : tb tX5_isFigureAt 35 = kX5_isFigureAt_35 := rfl
theorem oX5_isFigureAt : okT 83 tX5_isFigureAt = true := by decide +kernel
theorem eX5_isFigureAt {d : Nat} {Q : Qt} {M : Mm} {L : Ml} (a0 : Nat) (a1 : Int32) (h : wpN 83 d tX5_isFigureAt Q 60 0 [some (.ref a0), some (.int a1)] [] M L) : Good d 83 [.ref a0, .int a1] M L Q :=
  good_of (x := []) (mF_pn 83 (by decide)) (mF_cn 83 (by decide)) rfl (by rw [show mL 83 = 2 by decide +kernel]; exact (show 2 ≤ 2 by decide)) rfl (by simp) (wpN_runs oX5_isFigureAt 60 0 _ _ _ _ h)
