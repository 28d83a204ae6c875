abbrev nX7_seat : Nat := 168
def kX7_seat_0 : List Instr := [.iload 0, .ifCond .ge 9, .iconst (-1000000), .goto 10]
def kX7_seat_9 : List Instr := [.iload 0, .ireturn]
def kX7_seat_10 : List Instr := [.ireturn]
def tX7_seat : Bt := [(0, kX7_seat_0), (9, kX7_seat_9), (10, kX7_seat_10)]
theorem tX7_seat_0 : tb tX7_seat 0 = kX7_seat_0 := rfl
theorem tX7_seat_9 : tb tX7_seat 9 = kX7_seat_9 := rfl
theorem tX7_seat_10 : tb tX7_seat 10 = kX7_seat_10 := rfl
theorem oX7_seat : okT 168 tX7_seat = true := by decide +kernel
theorem eX7_seat {d : Nat} {Q : Qt} {M : Mm} {L : Ml} (a0 : Int32) (h : wpN 168 d tX7_seat Q 60 0 [some (.int a0)] [] M L) : Good d 168 [.int a0] M L Q :=
  good_of (x := []) (mF_pn 168 (by decide)) (mF_cn 168 (by decide)) rfl (by rw [show mL 168 = 1 by decide +kernel]; exact (show 1 ≤ 1 by decide)) rfl (by simp) (wpN_runs oX7_seat 60 0 _ _ _ _ h)
abbrev nX7_player : Nat := 169
def kX7_player_0 : List Instr := [.aload 0, .iload 1, .invokeinterface 140 114, .ifCond .ne 11, .iconst (-1000001), .ireturn]
def kX7_player_11 : List Instr := [.iconst 0, .istore 3, .iload 2, .lookupswitch 169 #[(0, 52), (1, 62), (2, 75), (3, 85), (4, 112), (5, 122)]]
def kX7_player_52 : List Instr := [.aload 0, .getstatic 230, .iconst 46, .iload 1, .iadd, .iaload, .ireturn]
def kX7_player_62 : List Instr := [.aload 0, .getstatic 230, .iconst 14, .iload 1, .iadd, .iaload, .multianewarray 168 1, .ireturn]
def kX7_player_75 : List Instr := [.aload 0, .getstatic 230, .iconst 22, .iload 1, .iadd, .iaload, .ireturn]
def kX7_player_85 : List Instr := [.aload 0, .getstatic 230, .iconst 46, .iload 1, .iadd, .iaload, .iconst 1, .if_icmp .ne 110, .aload 0, .getstatic 230, .iconst 30, .iload 1, .iadd, .iaload, .goto 111]
def kX7_player_110 : List Instr := [.iconst 0, .ireturn]
def kX7_player_111 : List Instr := [.ireturn]
def kX7_player_112 : List Instr := [.aload 0, .getstatic 230, .iconst 38, .iload 1, .iadd, .iaload, .ireturn]
def kX7_player_122 : List Instr := [.iconst 0, .istore 4, .ret 125]
def kX7_player_125 : List Instr := [.ret 125]
def kX7_player_158 : List Instr := [.iconst 0, .ior, .istore 3, .iinc 4 1, .goto 125]
def kX7_player_159 : List Instr := [.ior, .istore 3, .iinc 4 1, .goto 125]
def kX7_player_167 : List Instr := [.iload 3, .ireturn]
def kX7_player_169 : List Instr := [.iconst (-1000001), .ireturn]
def hX7_player_125 : List Instr := [.iload 4, .aload 0, .getstatic 230, .iconst 0, .iaload, .if_icmp .ge 167, .iload 3, .aload 0, .getstatic 230, .iconst 14, .iload 4, .iadd, .iaload, .iload 1, .if_icmp .ne 158, .iconst 1, .iload 4, .ishl, .goto 159]
def tX7_player : Bt := [(0, kX7_player_0), (11, kX7_player_11), (52, kX7_player_52), (62, kX7_player_62), (75, kX7_player_75), (85, kX7_player_85), (110, kX7_player_110), (111, kX7_player_111), (112, kX7_player_112), (122, kX7_player_122), (125, kX7_player_125), (158, kX7_player_158), (159, kX7_player_159), (167, kX7_player_167), (169, kX7_player_169)]
theorem tX7_player_0 : tb tX7_player 0 = kX7_player_0 := rfl
theorem tX7_player_11 : tb tX7_player 11 = kX7_player_11 := rfl
theorem tX7_player_52 : tb tX7_player 52 = kX7_player_52 := rfl
theorem tX7_player_62 : tb tX7_player 62 = kX7_player_62 := rfl
theorem tX7_player_75 : tb tX7_player 75 = kX7_player_75 := rfl
theorem tX7_player_85 : tb tX7_player 85 = kX7_player_85 := rfl
theorem tX7_player_110 : tb tX7_player 110 = kX7_player_110 := rfl
theorem tX7_player_111 : tb tX7_player 111 = kX7_player_111 := rfl
theorem tX7_player_112 : tb tX7_player 112 = kX7_player_112 := rfl
theorem tX7_player_122 : tb tX7_player 122 = kX7_player_122 := rfl
theorem tX7_player_125 : tb tX7_player 125 = kX7_player_125 := rfl
theorem tX7_player_158 : tb tX7_player 158 = kX7_player_158 := rfl
theorem tX7_player_159 : tb tX7_player 159 = kX7_player_159 := rfl
theorem tX7_player_167 : tb tX7_player 167 = kX7_player_167 := rfl
theorem tX7_player_169 : tb tX7_player 169 = kX7_player_169 := rfl
theorem oX7_player : okT 169 tX7_player = true := by decide +kernel
theorem oX7_player_125 : okB 169 125 hX7_player_125 = true := by decide +kernel
theorem eX7_player {d : Nat} {Q : Qt} {M : Mm} {L : Ml} (a0 : Nat) (a1 : Int32) (a2 : Int32) (h : wpN 169 d tX7_player Q 60 0 [some (.ref a0), some (.int a1), some (.int a2), none, none] [] M L) : Good d 169 [.ref a0, .int a1, .int a2] M L Q :=
  good_of (x := [none, none]) (mF_pn 169 (by decide)) (mF_cn 169 (by decide)) rfl (by rw [show mL 169 = 5 by decide +kernel]; exact (show 3 ≤ 5 by decide)) rfl (by simp) (wpN_runs oX7_player 60 0 _ _ _ _ h)
abbrev nX7_stand : Nat := 170
def kX7_stand_0 : List Instr := [.aload 0, .getfield 229, .ifCond .ne 10, .iconst (-1000002), .ireturn]
def kX7_stand_10 : List Instr := [.iload 1, .lookupswitch 70 #[(0, 52), (1, 52), (2, 52), (3, 52), (4, 59), (5, 59), (6, 59)]]
def kX7_stand_52 : List Instr := [.aload 0, .getstatic 230, .iload 1, .iaload, .ireturn]
def kX7_stand_59 : List Instr := [.aload 0, .getstatic 230, .iload 1, .iconst 4, .isub, .multianewarray 149 2, .ireturn]
def kX7_stand_70 : List Instr := [.iconst (-1000001), .ireturn]
def tX7_stand : Bt := [(0, kX7_stand_0), (10, kX7_stand_10), (52, kX7_stand_52), (59, kX7_stand_59), (70, kX7_stand_70)]
theorem tX7_stand_0 : tb tX7_stand 0 = kX7_stand_0 := rfl
theorem tX7_stand_10 : tb tX7_stand 10 = kX7_stand_10 := rfl
theorem tX7_stand_52 : tb tX7_stand 52 = kX7_stand_52 := rfl
theorem tX7_stand_59 : tb tX7_stand 59 = kX7_stand_59 := rfl
theorem tX7_stand_70 : tb tX7_stand 70 = kX7_stand_70 := rfl
theorem oX7_stand : okT 170 tX7_stand = true := by decide +kernel
theorem eX7_stand {d : Nat} {Q : Qt} {M : Mm} {L : Ml} (a0 : Nat) (a1 : Int32) (h : wpN 170 d tX7_stand Q 60 0 [some (.ref a0), some (.int a1)] [] M L) : Good d 170 [.ref a0, .int a1] M L Q :=
  good_of (x := []) (mF_pn 170 (by decide)) (mF_cn 170 (by decide)) rfl (by rw [show mL 170 = 2 by decide +kernel]; exact (show 2 ≤ 2 by decide)) rfl (by simp) (wpN_runs oX7_stand 60 0 _ _ _ _ h)
abbrev nX7_passAll : Nat := 171
def kX7_passAll_0 : List Instr := [.iconst 0, .istore 2, .ret 2]
def kX7_passAll_2 : List Instr := [.ret 2]
def kX7_passAll_22 : List Instr := [.return_]
def hX7_passAll_2 : List Instr := [.iload 2, .iload 1, .if_icmp .ge 22, .aload 0, .aload 0, .getstatic 231, .invokeinterface 146 114, .pop, .iinc 2 1, .goto 2]
def tX7_passAll : Bt := [(0, kX7_passAll_0), (2, kX7_passAll_2), (22, kX7_passAll_22)]
theorem tX7_passAll_0 : tb tX7_passAll 0 = kX7_passAll_0 := rfl
theorem tX7_passAll_2 : tb tX7_passAll 2 = kX7_passAll_2 := rfl
theorem tX7_passAll_22 : tb tX7_passAll 22 = kX7_passAll_22 := rfl
theorem oX7_passAll : okT 171 tX7_passAll = true := by decide +kernel
theorem oX7_passAll_2 : okB 171 2 hX7_passAll_2 = true := by decide +kernel
theorem eX7_passAll {d : Nat} {Q : Qt} {M : Mm} {L : Ml} (a0 : Nat) (a1 : Int32) (h : wpN 171 d tX7_passAll Q 60 0 [some (.ref a0), some (.int a1), none] [] M L) : Good d 171 [.ref a0, .int a1] M L Q :=
  good_of (x := [none]) (mF_pn 171 (by decide)) (mF_cn 171 (by decide)) rfl (by rw [show mL 171 = 3 by decide +kernel]; exact (show 2 ≤ 3 by decide)) rfl (by simp) (wpN_runs oX7_passAll 60 0 _ _ _ _ h)
abbrev nX7_ahead : Nat := 172
def kX7_ahead_0 : List Instr := [.aload 0, .iload 1, .invokeinterface 140 114, .ifCond .eq 27, .iload 2, .iconst 0, .iconst 60, .multianewarray 127 3, .ifCond .eq 27, .iload 3, .iconst 0, .iconst 2, .multianewarray 127 3, .ifCond .ne 30, .iconst (-1000001), .ireturn]
def kX7_ahead_27 : List Instr := [.iconst (-1000001), .ireturn]
def kX7_ahead_30 : List Instr := [.aload 0, .invokeinterface 138 113, .aload 0, .iload 2, .invokeinterface 171 114, .iload 3, .ifCond .ne 55, .aload 0, .getstatic 231, .iconst 46, .iload 1, .iadd, .iaload, .goto 84]
def kX7_ahead_55 : List Instr := [.iload 3, .iconst 1, .if_icmp .ne 75, .aload 0, .getstatic 231, .iconst 14, .iload 1, .iadd, .iaload, .multianewarray 168 1, .goto 84]
def kX7_ahead_75 : List Instr := [.aload 0, .getstatic 231, .iconst 38, .iload 1, .iadd, .iaload, .ireturn]
def kX7_ahead_84 : List Instr := [.ireturn]
def tX7_ahead : Bt := [(0, kX7_ahead_0), (27, kX7_ahead_27), (30, kX7_ahead_30), (55, kX7_ahead_55), (75, kX7_ahead_75), (84, kX7_ahead_84)]
theorem tX7_ahead_0 : tb tX7_ahead 0 = kX7_ahead_0 := rfl
theorem tX7_ahead_27 : tb tX7_ahead 27 = kX7_ahead_27 := rfl
theorem tX7_ahead_30 : tb tX7_ahead 30 = kX7_ahead_30 := rfl
theorem tX7_ahead_55 : tb tX7_ahead 55 = kX7_ahead_55 := rfl
theorem tX7_ahead_75 : tb tX7_ahead 75 = kX7_ahead_75 := rfl
theorem tX7_ahead_84 : tb tX7_ahead 84 = kX7_ahead_84 := rfl
theorem oX7_ahead : okT 172 tX7_ahead = true := by decide +kernel
theorem eX7_ahead {d : Nat} {Q : Qt} {M : Mm} {L : Ml} (a0 : Nat) (a1 : Int32) (a2 : Int32) (a3 : Int32) (h : wpN 172 d tX7_ahead Q 60 0 [some (.ref a0), some (.int a1), some (.int a2), some (.int a3)] [] M L) : Good d 172 [.ref a0, .int a1, .int a2, .int a3] M L Q :=
  good_of (x := []) (mF_pn 172 (by decide)) (mF_cn 172 (by decide)) rfl (by rw [show mL 172 = 4 by decide +kernel]; exact (show 4 ≤ 4 by decide)) rfl (by simp) (wpN_runs oX7_ahead 60 0 _ _ _ _ h)
abbrev nX7_toll : Nat := 173
def kX7_toll_0 : List Instr := [.aload 0, .getfield 229, .ifCond .ne 10, .iconst (-1000002), .ireturn]
def kX7_toll_10 : List Instr := [.iload 1, .iconst 0, .iconst 60, .multianewarray 127 3, .ifCond .eq 29, .iload 2, .iconst 0, .iconst 1, .multianewarray 127 3, .ifCond .ne 32, .iconst (-1000001), .ireturn]
def kX7_toll_29 : List Instr := [.iconst (-1000001), .ireturn]
def kX7_toll_32 : List Instr := [.aload 0, .invokeinterface 138 113, .aload 0, .iload 1, .invokeinterface 171 114, .iload 2, .ifCond .ne 56, .aload 0, .getstatic 231, .iconst 2, .multianewarray 149 2, .goto 62]
def kX7_toll_56 : List Instr := [.aload 0, .getstatic 231, .iconst 3, .iaload, .ireturn]
def kX7_toll_62 : List Instr := [.ireturn]
def tX7_toll : Bt := [(0, kX7_toll_0), (10, kX7_toll_10), (29, kX7_toll_29), (32, kX7_toll_32), (56, kX7_toll_56), (62, kX7_toll_62)]
theorem tX7_toll_0 : tb tX7_toll 0 = kX7_toll_0 := rfl
theorem tX7_toll_10 : tb tX7_toll 10 = kX7_toll_10 := rfl
theorem tX7_toll_29 : tb tX7_toll 29 = kX7_toll_29 := rfl
theorem tX7_toll_32 : tb tX7_toll 32 = kX7_toll_32 := rfl
theorem tX7_toll_56 : tb tX7_toll 56 = kX7_toll_56 := rfl
theorem tX7_toll_62 : tb tX7_toll 62 = kX7_toll_62 := rfl
theorem oX7_toll : okT 173 tX7_toll = true := by decide +kernel
theorem eX7_toll {d : Nat} {Q : Qt} {M : Mm} {L : Ml} (a0 : Nat) (a1 : Int32) (a2 : Int32) (h : wpN 173 d tX7_toll Q 60 0 [some (.ref a0), some (.int a1), some (.int a2)] [] M L) : Good d 173 [.ref a0, .int a1, .int a2] M L Q :=
  good_of (x := []) (mF_pn 173 (by decide)) (mF_cn 173 (by decide)) rfl (by rw [show mL 173 = 3 by decide +kernel]; exact (show 3 ≤ 3 by decide)) rfl (by simp) (wpN_runs oX7_toll 60 0 _ _ _ _ h)
abbrev nX7_when : Nat := 174
def kX7_when_0 : List Instr := [.aload 0, .iload 1, .invokeinterface 140 114, .ifCond .eq 17, .iload 2, .iconst 1, .iconst 2, .multianewarray 127 3, .ifCond .ne 20, .iconst (-1000001), .ireturn]
def kX7_when_17 : List Instr := [.iconst (-1000001), .ireturn]
def kX7_when_20 : List Instr := [.aload 0, .invokeinterface 138 113, .iconst 0, .istore 3, .ret 26]
def kX7_when_26 : List Instr := [.ret 26]
def kX7_when_47 : List Instr := [.aload 0, .aload 0, .getstatic 231, .invokeinterface 146 114, .pop, .iinc 3 1, .goto 26]
def kX7_when_62 : List Instr := [.iconst (-1000000), .ireturn]
def hX7_when_26 : List Instr := [.iload 3, .iconst 60, .if_icmp .gt 62, .aload 0, .getstatic 231, .iconst 46, .iload 1, .iadd, .iaload, .iload 2, .if_icmp .lt 47, .iload 3, .ireturn]
def tX7_when : Bt := [(0, kX7_when_0), (17, kX7_when_17), (20, kX7_when_20), (26, kX7_when_26), (47, kX7_when_47), (62, kX7_when_62)]
theorem tX7_when_0 : tb tX7_when 0 = kX7_when_0 := rfl
theorem tX7_when_17 : tb tX7_when 17 = kX7_when_17 := rfl
theorem tX7_when_20 : tb tX7_when 20 = kX7_when_20 := rfl
theorem tX7_when_26 : tb tX7_when 26 = kX7_when_26 := rfl
theorem tX7_when_47 : tb tX7_when 47 = kX7_when_47 := rfl
theorem tX7_when_62 : tb tX7_when 62 = kX7_when_62 := rfl
theorem oX7_when : okT 174 tX7_when = true := by decide +kernel
theorem oX7_when_26 : okB 174 26 hX7_when_26 = true := by decide +kernel
theorem eX7_when {d : Nat} {Q : Qt} {M : Mm} {L : Ml} (a0 : Nat) (a1 : Int32) (a2 : Int32) (h : wpN 174 d tX7_when Q 60 0 [some (.ref a0), some (.int a1), some (.int a2), none] [] M L) : Good d 174 [.ref a0, .int a1, .int a2] M L Q :=
  good_of (x := [none]) (mF_pn 174 (by decide)) (mF_cn 174 (by decide)) rfl (by rw [show mL 174 = 4 by decide +kernel]; exact (show 3 ≤ 4 by decide)) rfl (by simp) (wpN_runs oX7_when 60 0 _ _ _ _ h)
abbrev nX7_out : Nat := 175
def kX7_out_0 : List Instr := [.aload 0, .getfield 229, .ifCond .ne 10, .iconst (-1000002), .ireturn]
def kX7_out_10 : List Instr := [.aload 0, .invokeinterface 138 113, .iconst 0, .istore 1, .ret 16]
def kX7_out_16 : List Instr := [.ret 16]
def kX7_out_34 : List Instr := [.aload 0, .aload 0, .getstatic 231, .invokeinterface 146 114, .pop, .iinc 1 1, .goto 16]
def kX7_out_49 : List Instr := [.iconst (-1000000), .ireturn]
def hX7_out_16 : List Instr := [.iload 1, .iconst 60, .if_icmp .gt 49, .aload 0, .getstatic 231, .iconst 3, .iaload, .iconst 1, .if_icmp .ne 34, .iload 1, .ireturn]
def tX7_out : Bt := [(0, kX7_out_0), (10, kX7_out_10), (16, kX7_out_16), (34, kX7_out_34), (49, kX7_out_49)]
theorem tX7_out_0 : tb tX7_out 0 = kX7_out_0 := rfl
theorem tX7_out_10 : tb tX7_out 10 = kX7_out_10 := rfl
theorem tX7_out_16 : tb tX7_out 16 = kX7_out_16 := rfl
theorem tX7_out_34 : tb tX7_out 34 = kX7_out_34 := rfl
theorem tX7_out_49 : tb tX7_out 49 = kX7_out_49 := rfl
theorem oX7_out : okT 175 tX7_out = true := by decide +kernel
theorem oX7_out_16 : okB 175 16 hX7_out_16 = true := by decide +kernel
theorem eX7_out {d : Nat} {Q : Qt} {M : Mm} {L : Ml} (a0 : Nat) (h : wpN 175 d tX7_out Q 60 0 [some (.ref a0), none] [] M L) : Good d 175 [.ref a0] M L Q :=
  good_of (x := [none]) (mF_pn 175 (by decide)) (mF_cn 175 (by decide)) rfl (by rw [show mL 175 = 2 by decide +kernel]; exact (show 1 ≤ 2 by decide)) rfl (by simp) (wpN_runs oX7_out 60 0 _ _ _ _ h)
abbrev nX7_meet : Nat := 176
def kX7_meet_0 : List Instr := [.aload 0, .iload 1, .invokeinterface 140 114, .ifCond .eq 21, .aload 0, .iload 2, .invokeinterface 140 114, .ifCond .eq 21, .iload 1, .iload 2, .if_icmp .ne 24, .iconst (-1000001), .ireturn]
def kX7_meet_21 : List Instr := [.iconst (-1000001), .ireturn]
def kX7_meet_24 : List Instr := [.aload 0, .invokeinterface 138 113, .iconst 0, .istore 3, .ret 30]
def kX7_meet_30 : List Instr := [.ret 30]
def kX7_meet_64 : List Instr := [.aload 0, .aload 0, .getstatic 231, .invokeinterface 146 114, .pop, .iinc 3 1, .goto 30]
def kX7_meet_79 : List Instr := [.iconst (-1000000), .ireturn]
def hX7_meet_30 : List Instr := [.iload 3, .iconst 60, .if_icmp .gt 79, .aload 0, .getstatic 231, .iconst 14, .iload 1, .iadd, .iaload, .iload 2, .if_icmp .ne 64, .aload 0, .getstatic 231, .iconst 14, .iload 2, .iadd, .iaload, .iload 1, .if_icmp .ne 64, .iload 3, .ireturn]
def tX7_meet : Bt := [(0, kX7_meet_0), (21, kX7_meet_21), (24, kX7_meet_24), (30, kX7_meet_30), (64, kX7_meet_64), (79, kX7_meet_79)]
theorem tX7_meet_0 : tb tX7_meet 0 = kX7_meet_0 := rfl
theorem tX7_meet_21 : tb tX7_meet 21 = kX7_meet_21 := rfl
theorem tX7_meet_24 : tb tX7_meet 24 = kX7_meet_24 := rfl
theorem tX7_meet_30 : tb tX7_meet 30 = kX7_meet_30 := rfl
theorem tX7_meet_64 : tb tX7_meet 64 = kX7_meet_64 := rfl
theorem tX7_meet_79 : tb tX7_meet 79 = kX7_meet_79 := rfl
theorem oX7_meet : okT 176 tX7_meet = true := by decide +kernel
theorem oX7_meet_30 : okB 176 30 hX7_meet_30 = true := by decide +kernel
theorem eX7_meet {d : Nat} {Q : Qt} {M : Mm} {L : Ml} (a0 : Nat) (a1 : Int32) (a2 : Int32) (h : wpN 176 d tX7_meet Q 60 0 [some (.ref a0), some (.int a1), some (.int a2), none] [] M L) : Good d 176 [.ref a0, .int a1, .int a2] M L Q :=
  good_of (x := [none]) (mF_pn 176 (by decide)) (mF_cn 176 (by decide)) rfl (by rw [show mL 176 = 4 by decide +kernel]; exact (show 3 ≤ 4 by decide)) rfl (by simp) (wpN_runs oX7_meet 60 0 _ _ _ _ h)
abbrev nX7_takeWith : Nat := 177
def kX7_takeWith_0 : List Instr := [.aload 0, .invokeinterface 138 113, .iload 1, .aload 0, .getstatic 230, .iconst 1, .iaload, .if_icmp .eq 22, .aload 0, .getstatic 231, .iload 1, .multianewarray 147 2, .return_]
def kX7_takeWith_22 : List Instr := [.return_]
def tX7_takeWith : Bt := [(0, kX7_takeWith_0), (22, kX7_takeWith_22)]
theorem tX7_takeWith_0 : tb tX7_takeWith 0 = kX7_takeWith_0 := rfl
theorem tX7_takeWith_22 : tb tX7_takeWith 22 = kX7_takeWith_22 := rfl
theorem oX7_takeWith : okT 177 tX7_takeWith = true := by decide +kernel
theorem eX7_takeWith {d : Nat} {Q : Qt} {M : Mm} {L : Ml} (a0 : Nat) (a1 : Int32) (h : wpN 177 d tX7_takeWith Q 60 0 [some (.ref a0), some (.int a1)] [] M L) : Good d 177 [.ref a0, .int a1] M L Q :=
  good_of (x := []) (mF_pn 177 (by decide)) (mF_cn 177 (by decide)) rfl (by rw [show mL 177 = 2 by decide +kernel]; exact (show 2 ≤ 2 by decide)) rfl (by simp) (wpN_runs oX7_takeWith 60 0 _ _ _ _ h)
abbrev nX7_bestRole : Nat := 178
def kX7_bestRole_0 : List Instr := [.aload 0, .getfield 229, .ifCond .ne 10, .iconst (-1000002), .ireturn]
def kX7_bestRole_10 : List Instr := [.iload 1, .iconst 1, .iconst 40, .multianewarray 127 3, .ifCond .eq 29, .iload 2, .iconst 0, .iconst 1, .multianewarray 127 3, .ifCond .ne 32, .iconst (-1000001), .ireturn]
def kX7_bestRole_29 : List Instr := [.iconst (-1000001), .ireturn]
def kX7_bestRole_32 : List Instr := [.iconst 0, .istore 3, .iconst (-1), .istore 4, .iconst 0, .istore 5, .ret 40]
def kX7_bestRole_40 : List Instr := [.ret 40]
def kX7_bestRole_83 : List Instr := [.iload 3, .istore 3, .iload 6, .iload 4, .if_icmp .le 97, .iload 6, .goto 99]
def kX7_bestRole_84 : List Instr := [.istore 3, .iload 6, .iload 4, .if_icmp .le 97, .iload 6, .goto 99]
def kX7_bestRole_97 : List Instr := [.iload 4, .istore 4, .iinc 5 1, .goto 40]
def kX7_bestRole_99 : List Instr := [.istore 4, .iinc 5 1, .goto 40]
def kX7_bestRole_107 : List Instr := [.iload 2, .ifCond .ne 115, .iload 3, .goto 117]
def kX7_bestRole_115 : List Instr := [.iload 4, .ireturn]
def kX7_bestRole_117 : List Instr := [.ireturn]
def hX7_bestRole_40 : List Instr := [.iload 5, .aload 0, .getstatic 230, .iconst 0, .iaload, .if_icmp .ge 107, .aload 0, .iload 5, .invokeinterface 177 114, .aload 0, .iload 1, .invokeinterface 171 114, .aload 0, .getstatic 231, .multianewarray 151 1, .istore 6, .iload 6, .iload 4, .if_icmp .le 83, .iload 5, .goto 84]
def tX7_bestRole : Bt := [(0, kX7_bestRole_0), (10, kX7_bestRole_10), (29, kX7_bestRole_29), (32, kX7_bestRole_32), (40, kX7_bestRole_40), (83, kX7_bestRole_83), (84, kX7_bestRole_84), (97, kX7_bestRole_97), (99, kX7_bestRole_99), (107, kX7_bestRole_107), (115, kX7_bestRole_115), (117, kX7_bestRole_117)]
theorem tX7_bestRole_0 : tb tX7_bestRole 0 = kX7_bestRole_0 := rfl
theorem tX7_bestRole_10 : tb tX7_bestRole 10 = kX7_bestRole_10 := rfl
theorem tX7_bestRole_29 : tb tX7_bestRole 29 = kX7_bestRole_29 := rfl
theorem tX7_bestRole_32 : tb tX7_bestRole 32 = kX7_bestRole_32 := rfl
theorem tX7_bestRole_40 : tb tX7_bestRole 40 = kX7_bestRole_40 := rfl
theorem tX7_bestRole_83 : tb tX7_bestRole 83 = kX7_bestRole_83 := rfl
theorem tX7_bestRole_84 : tb tX7_bestRole 84 = kX7_bestRole_84 := rfl
theorem tX7_bestRole_97 : tb tX7_bestRole 97 = kX7_bestRole_97 := rfl
theorem tX7_bestRole_99 : tb tX7_bestRole 99 = kX7_bestRole_99 := rfl
theorem tX7_bestRole_107 : tb tX7_bestRole 107 = kX7_bestRole_107 := rfl
theorem tX7_bestRole_115 : tb tX7_bestRole 115 = kX7_bestRole_115 := rfl
theorem tX7_bestRole_117 : tb tX7_bestRole 117 = kX7_bestRole_117 := rfl
theorem oX7_bestRole : okT 178 tX7_bestRole = true := by decide +kernel
theorem oX7_bestRole_40 : okB 178 40 hX7_bestRole_40 = true := by decide +kernel
theorem eX7_bestRole {d : Nat} {Q : Qt} {M : Mm} {L : Ml} (a0 : Nat) (a1 : Int32) (a2 : Int32) (h : wpN 178 d tX7_bestRole Q 60 0 [some (.ref a0), some (.int a1), some (.int a2), none, none, none, none] [] M L) : Good d 178 [.ref a0, .int a1, .int a2] M L Q :=
  good_of (x := [none, none, none, none]) (mF_pn 178 (by decide)) (mF_cn 178 (by decide)) rfl (by rw [show mL 178 = 7 by decide +kernel]; exact (show 3 ≤ 7 by decide)) rfl (by simp) (wpN_runs oX7_bestRole 60 0 _ _ _ _ h)
abbrev nX7_glance : Nat := 179
def kX7_glance_0 : List Instr := [.aload 0, .getfield 229, .ifCond .ne 10, .iconst (-1000002), .ireturn]
def kX7_glance_10 : List Instr := [.iload 1, .iconst 1, .iconst 40, .multianewarray 127 3, .ifCond .eq 29, .iload 2, .iconst 0, .iconst 1, .multianewarray 127 3, .ifCond .ne 32, .iconst (-1000001), .ireturn]
def kX7_glance_29 : List Instr := [.iconst (-1000001), .ireturn]
def kX7_glance_32 : List Instr := [.aload 0, .getstatic 230, .iconst 1, .iaload, .istore 3, .iconst (-1000000), .istore 4, .iconst (-1000000), .istore 5, .iconst 0, .istore 6, .ret 50]
def kX7_glance_50 : List Instr := [.ret 50]
def kX7_glance_121 : List Instr := [.iload 4, .istore 4, .iload 7, .iload 5, .if_icmp .le 137, .iload 7, .goto 139]
def kX7_glance_123 : List Instr := [.istore 4, .iload 7, .iload 5, .if_icmp .le 137, .iload 7, .goto 139]
def kX7_glance_137 : List Instr := [.iload 5, .istore 5, .iinc 6 1, .goto 50]
def kX7_glance_139 : List Instr := [.istore 5, .iinc 6 1, .goto 50]
def kX7_glance_141 : List Instr := [.iinc 6 1, .goto 50]
def kX7_glance_147 : List Instr := [.iload 2, .ifCond .ne 156, .iload 4, .goto 158]
def kX7_glance_156 : List Instr := [.iload 5, .ireturn]
def kX7_glance_158 : List Instr := [.ireturn]
def hX7_glance_50 : List Instr := [.iload 6, .aload 0, .getstatic 230, .iconst 0, .iaload, .if_icmp .ge 147, .aload 0, .getstatic 230, .iconst 46, .iload 3, .iadd, .iaload, .iconst 2, .if_icmp .eq 147, .iload 6, .iload 3, .if_icmp .eq 141, .aload 0, .invokeinterface 138 113, .aload 0, .getstatic 231, .iconst 14, .iload 3, .iadd, .iload 6, .iastore, .aload 0, .iload 1, .invokeinterface 171 114, .aload 0, .getstatic 231, .multianewarray 151 1, .istore 7, .iload 7, .iload 5, .if_icmp .le 121, .iload 6, .goto 123]
def tX7_glance : Bt := [(0, kX7_glance_0), (10, kX7_glance_10), (29, kX7_glance_29), (32, kX7_glance_32), (50, kX7_glance_50), (121, kX7_glance_121), (123, kX7_glance_123), (137, kX7_glance_137), (139, kX7_glance_139), (141, kX7_glance_141), (147, kX7_glance_147), (156, kX7_glance_156), (158, kX7_glance_158)]
theorem tX7_glance_0 : tb tX7_glance 0 = kX7_glance_0 := rfl
theorem tX7_glance_10 : tb tX7_glance 10 = kX7_glance_10 := rfl
theorem tX7_glance_29 : tb tX7_glance 29 = kX7_glance_29 := rfl
theorem tX7_glance_32 : tb tX7_glance 32 = kX7_glance_32 := rfl
theorem tX7_glance_50 : tb tX7_glance 50 = kX7_glance_50 := rfl
theorem tX7_glance_121 : tb tX7_glance 121 = kX7_glance_121 := rfl
theorem tX7_glance_123 : tb tX7_glance 123 = kX7_glance_123 := rfl
theorem tX7_glance_137 : tb tX7_glance 137 = kX7_glance_137 := rfl
theorem tX7_glance_139 : tb tX7_glance 139 = kX7_glance_139 := rfl
theorem tX7_glance_141 : tb tX7_glance 141 = kX7_glance_141 := rfl
theorem tX7_glance_147 : tb tX7_glance 147 = kX7_glance_147 := rfl
theorem tX7_glance_156 : tb tX7_glance 156 = kX7_glance_156 := rfl
theorem tX7_glance_158 : tb tX7_glance 158 = kX7_glance_158 := rfl
theorem oX7_glance : okT 179 tX7_glance = true := by decide +kernel
theorem oX7_glance_50 : okB 179 50 hX7_glance_50 = true := by decide +kernel
theorem eX7_glance {d : Nat} {Q : Qt} {M : Mm} {L : Ml} (a0 : Nat) (a1 : Int32) (a2 : Int32) (h : wpN 179 d tX7_glance Q 60 0 [some (.ref a0), some (.int a1), some (.int a2), none, none, none, none, none] [] M L) : Good d 179 [.ref a0, .int a1, .int a2] M L Q :=
  good_of (x := [none, none, none, none, none]) (mF_pn 179 (by decide)) (mF_cn 179 (by decide)) rfl (by rw [show mL 179 = 8 by decide +kernel]; exact (show 3 ≤ 8 by decide)) rfl (by simp) (wpN_runs oX7_glance 60 0 _ _ _ _ h)
abbrev nX7_pass : Nat := 180
def kX7_pass_0 : List Instr := [.aload 0, .getfield 229, .ifCond .ne 10, .iconst (-1000002), .ireturn]
def kX7_pass_10 : List Instr := [.iload 1, .iconst 1, .iconst 40, .multianewarray 127 3, .ifCond .ne 23, .iconst (-1000001), .ireturn]
def kX7_pass_23 : List Instr := [.iconst 1, .istore 2, .ret 25]
def kX7_pass_25 : List Instr := [.ret 25]
def kX7_pass_58 : List Instr := [.iinc 2 1, .goto 25]
def kX7_pass_64 : List Instr := [.iconst (-1000000), .ireturn]
def hX7_pass_25 : List Instr := [.iload 2, .iconst 9, .if_icmp .gt 64, .aload 0, .invokeinterface 138 113, .aload 0, .getstatic 231, .iconst 2, .iload 2, .iastore, .aload 0, .iload 1, .invokeinterface 171 114, .aload 0, .getstatic 231, .iconst 3, .iaload, .ifCond .ne 58, .iload 2, .ireturn]
def tX7_pass : Bt := [(0, kX7_pass_0), (10, kX7_pass_10), (23, kX7_pass_23), (25, kX7_pass_25), (58, kX7_pass_58), (64, kX7_pass_64)]
theorem tX7_pass_0 : tb tX7_pass 0 = kX7_pass_0 := rfl
theorem tX7_pass_10 : tb tX7_pass 10 = kX7_pass_10 := rfl
theorem tX7_pass_23 : tb tX7_pass 23 = kX7_pass_23 := rfl
theorem tX7_pass_25 : tb tX7_pass 25 = kX7_pass_25 := rfl
theorem tX7_pass_58 : tb tX7_pass 58 = kX7_pass_58 := rfl
theorem tX7_pass_64 : tb tX7_pass 64 = kX7_pass_64 := rfl
theorem oX7_pass : okT 180 tX7_pass = true := by decide +kernel
theorem oX7_pass_25 : okB 180 25 hX7_pass_25 = true := by decide +kernel
theorem eX7_pass {d : Nat} {Q : Qt} {M : Mm} {L : Ml} (a0 : Nat) (a1 : Int32) (h : wpN 180 d tX7_pass Q 60 0 [some (.ref a0), some (.int a1), none] [] M L) : Good d 180 [.ref a0, .int a1] M L Q :=
  good_of (x := [none]) (mF_pn 180 (by decide)) (mF_cn 180 (by decide)) rfl (by rw [show mL 180 = 3 by decide +kernel]; exact (show 2 ≤ 3 by decide)) rfl (by simp) (wpN_runs oX7_pass 60 0 _ _ _ _ h)
abbrev nX7_sets : Nat := 181
def kX7_sets_0 : List Instr := [.aload 0, .getfield 229, .ifCond .ne 10, .iconst (-1000002), .ireturn]
def kX7_sets_10 : List Instr := [.iload 1, .iconst 0, .iconst 99, .multianewarray 127 3, .ifCond .eq 29, .iload 2, .iconst 0, .iconst 2, .multianewarray 127 3, .ifCond .ne 32, .iconst (-1000001), .ireturn]
def kX7_sets_29 : List Instr := [.iconst (-1000001), .ireturn]
def kX7_sets_32 : List Instr := [.iconst 1, .aload 0, .getstatic 230, .iconst 0, .iaload, .ishl, .iconst 1, .isub, .aload 0, .getstatic 230, .iconst 2, .multianewarray 149 2, .iconst (-1), .ixor, .iand, .istore 3, .iconst 0, .istore 4, .iload 3, .istore 5, .iconst 0, .istore 6, .iconst 0, .istore 7, .ret 66]
def kX7_sets_66 : List Instr := [.ret 66]
def kX7_sets_78 : List Instr := [.ret 78]
def kX7_sets_114 : List Instr := [.iconst 0, .iadd, .istore 8, .iinc 9 1, .goto 78]
def kX7_sets_115 : List Instr := [.iadd, .istore 8, .iinc 9 1, .goto 78]
def kX7_sets_124 : List Instr := [.iload 7, .iload 3, .iconst (-1), .ixor, .iand, .ifCond .ne 156, .iload 8, .iload 1, .if_icmp .ne 156, .iinc 4 1, .iload 5, .iload 7, .iand, .istore 5, .iload 6, .iload 7, .ior, .istore 6, .iinc 7 1, .goto 66]
def kX7_sets_156 : List Instr := [.iinc 7 1, .goto 66]
def kX7_sets_162 : List Instr := [.iload 2, .ifCond .ne 171, .iload 4, .goto 192]
def kX7_sets_171 : List Instr := [.iload 2, .iconst 2, .if_icmp .ne 181, .iload 6, .goto 192]
def kX7_sets_181 : List Instr := [.iload 4, .ifCond .ne 190, .iconst 0, .goto 192]
def kX7_sets_190 : List Instr := [.iload 5, .ireturn]
def kX7_sets_192 : List Instr := [.ireturn]
def hX7_sets_66 : List Instr := [.iload 7, .iload 3, .if_icmp .gt 162, .iconst 0, .istore 8, .iconst 0, .istore 9, .ret 78]
def hX7_sets_78 : List Instr := [.iload 9, .aload 0, .getstatic 230, .iconst 0, .iaload, .if_icmp .ge 124, .iload 8, .iload 7, .iload 9, .multianewarray 128 2, .ifCond .eq 114, .aload 0, .getstatic 230, .iconst 38, .iload 9, .iadd, .iaload, .goto 115]
def tX7_sets : Bt := [(0, kX7_sets_0), (10, kX7_sets_10), (29, kX7_sets_29), (32, kX7_sets_32), (66, kX7_sets_66), (78, kX7_sets_78), (114, kX7_sets_114), (115, kX7_sets_115), (124, kX7_sets_124), (156, kX7_sets_156), (162, kX7_sets_162), (171, kX7_sets_171), (181, kX7_sets_181), (190, kX7_sets_190), (192, kX7_sets_192)]
theorem tX7_sets_0 : tb tX7_sets 0 = kX7_sets_0 := rfl
theorem tX7_sets_10 : tb tX7_sets 10 = kX7_sets_10 := rfl
theorem tX7_sets_29 : tb tX7_sets 29 = kX7_sets_29 := rfl
theorem tX7_sets_32 : tb tX7_sets 32 = kX7_sets_32 := rfl
theorem tX7_sets_66 : tb tX7_sets 66 = kX7_sets_66 := rfl
theorem tX7_sets_78 : tb tX7_sets 78 = kX7_sets_78 := rfl
theorem tX7_sets_114 : tb tX7_sets 114 = kX7_sets_114 := rfl
theorem tX7_sets_115 : tb tX7_sets 115 = kX7_sets_115 := rfl
theorem tX7_sets_124 : tb tX7_sets 124 = kX7_sets_124 := rfl
theorem tX7_sets_156 : tb tX7_sets 156 = kX7_sets_156 := rfl
theorem tX7_sets_162 : tb tX7_sets 162 = kX7_sets_162 := rfl
theorem tX7_sets_171 : tb tX7_sets 171 = kX7_sets_171 := rfl
theorem tX7_sets_181 : tb tX7_sets 181 = kX7_sets_181 := rfl
theorem tX7_sets_190 : tb tX7_sets 190 = kX7_sets_190 := rfl
theorem tX7_sets_192 : tb tX7_sets 192 = kX7_sets_192 := rfl
theorem oX7_sets : okT 181 tX7_sets = true := by decide +kernel
theorem oX7_sets_66 : okB 181 66 hX7_sets_66 = true := by decide +kernel
theorem oX7_sets_78 : okB 181 78 hX7_sets_78 = true := by decide +kernel
theorem eX7_sets {d : Nat} {Q : Qt} {M : Mm} {L : Ml} (a0 : Nat) (a1 : Int32) (a2 : Int32) (h : wpN 181 d tX7_sets Q 60 0 [some (.ref a0), some (.int a1), some (.int a2), none, none, none, none, none, none, none] [] M L) : Good d 181 [.ref a0, .int a1, .int a2] M L Q :=
  good_of (x := [none, none, none, none, none, none, none]) (mF_pn 181 (by decide)) (mF_cn 181 (by decide)) rfl (by rw [show mL 181 = 10 by decide +kernel]; exact (show 3 ≤ 10 by decide)) rfl (by simp) (wpN_runs oX7_sets 60 0 _ _ _ _ h)
abbrev nX7_allSaw : Nat := 182
def kX7_allSaw_0 : List Instr := [.iconst 0, .istore 1, .iconst 0, .istore 2, .ret 4]
def kX7_allSaw_4 : List Instr := [.ret 4]
def kX7_allSaw_32 : List Instr := [.iload 1, .ireturn]
def hX7_allSaw_4 : List Instr := [.iload 2, .aload 0, .getstatic 230, .iconst 0, .iaload, .if_icmp .ge 32, .iload 1, .aload 0, .getstatic 230, .iconst 38, .iload 2, .iadd, .iaload, .iadd, .istore 1, .iinc 2 1, .goto 4]
def tX7_allSaw : Bt := [(0, kX7_allSaw_0), (4, kX7_allSaw_4), (32, kX7_allSaw_32)]
theorem tX7_allSaw_0 : tb tX7_allSaw 0 = kX7_allSaw_0 := rfl
theorem tX7_allSaw_4 : tb tX7_allSaw 4 = kX7_allSaw_4 := rfl
theorem tX7_allSaw_32 : tb tX7_allSaw 32 = kX7_allSaw_32 := rfl
theorem oX7_allSaw : okT 182 tX7_allSaw = true := by decide +kernel
theorem oX7_allSaw_4 : okB 182 4 hX7_allSaw_4 = true := by decide +kernel
theorem eX7_allSaw {d : Nat} {Q : Qt} {M : Mm} {L : Ml} (a0 : Nat) (h : wpN 182 d tX7_allSaw Q 60 0 [some (.ref a0), none, none] [] M L) : Good d 182 [.ref a0] M L Q :=
  good_of (x := [none, none]) (mF_pn 182 (by decide)) (mF_cn 182 (by decide)) rfl (by rw [show mL 182 = 3 by decide +kernel]; exact (show 1 ≤ 3 by decide)) rfl (by simp) (wpN_runs oX7_allSaw 60 0 _ _ _ _ h)
abbrev nX7_share : Nat := 183
def kX7_share_0 : List Instr := [.aload 0, .iload 1, .invokeinterface 140 114, .ifCond .eq 19, .iload 2, .iconst 0, .iconst 999, .multianewarray 127 3, .ifCond .ne 22, .iconst (-1000001), .ireturn]
def kX7_share_19 : List Instr := [.iconst (-1000001), .ireturn]
def kX7_share_22 : List Instr := [.aload 0, .invokeinterface 182 113, .istore 3, .aload 0, .getstatic 230, .iconst 38, .iload 1, .iadd, .iaload, .ifCond .ne 41, .iconst 0, .ireturn]
def kX7_share_41 : List Instr := [.iload 2, .istore 4, .iconst 0, .istore 5, .iconst 0, .istore 6, .ret 50]
def kX7_share_50 : List Instr := [.ret 50]
def kX7_share_105 : List Instr := [.iconst 0, .iadd, .istore 5, .iinc 6 1, .goto 50]
def kX7_share_106 : List Instr := [.iadd, .istore 5, .iinc 6 1, .goto 50]
def kX7_share_115 : List Instr := [.iload 2, .aload 0, .getstatic 230, .iconst 38, .iload 1, .iadd, .iaload, .imul, .iload 3, .idiv, .iload 5, .iload 4, .if_icmp .ge 139, .iconst 1, .goto 140]
def kX7_share_139 : List Instr := [.iconst 0, .iadd, .ireturn]
def kX7_share_140 : List Instr := [.iadd, .ireturn]
def hX7_share_50 : List Instr := [.iload 6, .aload 0, .getstatic 230, .iconst 0, .iaload, .if_icmp .ge 115, .iload 4, .iload 2, .aload 0, .getstatic 230, .iconst 38, .iload 6, .iadd, .iaload, .imul, .iload 3, .idiv, .isub, .istore 4, .iload 5, .iload 6, .iload 1, .if_icmp .ge 105, .aload 0, .getstatic 230, .iconst 38, .iload 6, .iadd, .iaload, .ifCond .le 105, .iconst 1, .goto 106]
def tX7_share : Bt := [(0, kX7_share_0), (19, kX7_share_19), (22, kX7_share_22), (41, kX7_share_41), (50, kX7_share_50), (105, kX7_share_105), (106, kX7_share_106), (115, kX7_share_115), (139, kX7_share_139), (140, kX7_share_140)]
theorem tX7_share_0 : tb tX7_share 0 = kX7_share_0 := rfl
theorem tX7_share_19 : tb tX7_share 19 = kX7_share_19 := rfl
theorem tX7_share_22 : tb tX7_share 22 = kX7_share_22 := rfl
theorem tX7_share_41 : tb tX7_share 41 = kX7_share_41 := rfl
theorem tX7_share_50 : tb tX7_share 50 = kX7_share_50 := rfl
theorem tX7_share_105 : tb tX7_share 105 = kX7_share_105 := rfl
theorem tX7_share_106 : tb tX7_share 106 = kX7_share_106 := rfl
theorem tX7_share_115 : tb tX7_share 115 = kX7_share_115 := rfl
theorem tX7_share_139 : tb tX7_share 139 = kX7_share_139 := rfl
theorem tX7_share_140 : tb tX7_share 140 = kX7_share_140 := rfl
theorem oX7_share : okT 183 tX7_share = true := by decide +kernel
theorem oX7_share_50 : okB 183 50 hX7_share_50 = true := by decide +kernel
theorem eX7_share {d : Nat} {Q : Qt} {M : Mm} {L : Ml} (a0 : Nat) (a1 : Int32) (a2 : Int32) (h : wpN 183 d tX7_share Q 60 0 [some (.ref a0), some (.int a1), some (.int a2), none, none, none, none] [] M L) : Good d 183 [.ref a0, .int a1, .int a2] M L Q :=
  good_of (x := [none, none, none, none]) (mF_pn 183 (by decide)) (mF_cn 183 (by decide)) rfl (by rw [show mL 183 = 7 by decide +kernel]; exact (show 3 ≤ 7 by decide)) rfl (by simp) (wpN_runs oX7_share 60 0 _ _ _ _ h)
abbrev nX7_deadBy : Nat := 184
def kX7_deadBy_0 : List Instr := [.aload 0, .invokeinterface 138 113, .iconst 0, .istore 4, .ret 7]
def kX7_deadBy_7 : List Instr := [.ret 7]
def kX7_deadBy_44 : List Instr := [.aload 0, .getstatic 230, .aload 0, .getstatic 230, .iconst 1, .iaload, .iconst 1, .multianewarray 141 3, .istore 6, .iload 5, .aload 0, .getstatic 230, .iconst 0, .iaload, .if_icmp .ge 92, .iload 5, .iload 6, .if_icmp .eq 95, .aload 0, .getstatic 230, .iconst 46, .iload 6, .iadd, .iaload, .iconst 2, .if_icmp .ne 95, .iconst (-1000000), .ireturn]
def kX7_deadBy_58 : List Instr := [.istore 6, .iload 5, .aload 0, .getstatic 230, .iconst 0, .iaload, .if_icmp .ge 92, .iload 5, .iload 6, .if_icmp .eq 95, .aload 0, .getstatic 230, .iconst 46, .iload 6, .iadd, .iaload, .iconst 2, .if_icmp .ne 95, .iconst (-1000000), .ireturn]
def kX7_deadBy_92 : List Instr := [.iconst (-1000000), .ireturn]
def kX7_deadBy_95 : List Instr := [.aload 0, .getstatic 231, .iconst 14, .iload 6, .iadd, .iload 5, .iload 6, .if_icmp .ne 124, .aload 0, .getstatic 231, .iconst 14, .iload 6, .iadd, .iaload, .goto 126]
def kX7_deadBy_124 : List Instr := [.iload 5, .iastore, .iinc 4 1, .goto 7]
def kX7_deadBy_126 : List Instr := [.iastore, .iinc 4 1, .goto 7]
def kX7_deadBy_133 : List Instr := [.aload 0, .iload 3, .invokeinterface 171 114, .aload 0, .getstatic 231, .multianewarray 151 1, .ireturn]
def hX7_deadBy_7 : List Instr := [.iload 4, .iload 2, .if_icmp .ge 133, .iload 1, .iconst 3, .iload 2, .iconst 1, .isub, .iload 4, .isub, .imul, .ishr, .iconst 7, .iand, .istore 5, .iload 4, .iconst 2, .irem, .ifCond .ne 44, .aload 0, .getstatic 230, .iconst 1, .iaload, .goto 58]
def tX7_deadBy : Bt := [(0, kX7_deadBy_0), (7, kX7_deadBy_7), (44, kX7_deadBy_44), (58, kX7_deadBy_58), (92, kX7_deadBy_92), (95, kX7_deadBy_95), (124, kX7_deadBy_124), (126, kX7_deadBy_126), (133, kX7_deadBy_133)]
theorem tX7_deadBy_0 : tb tX7_deadBy 0 = kX7_deadBy_0 := rfl
theorem tX7_deadBy_7 : tb tX7_deadBy 7 = kX7_deadBy_7 := rfl
theorem tX7_deadBy_44 : tb tX7_deadBy 44 = kX7_deadBy_44 := rfl
theorem tX7_deadBy_58 : tb tX7_deadBy 58 = kX7_deadBy_58 := rfl
theorem tX7_deadBy_92 : tb tX7_deadBy 92 = kX7_deadBy_92 := rfl
theorem tX7_deadBy_95 : tb tX7_deadBy 95 = kX7_deadBy_95 := rfl
theorem tX7_deadBy_124 : tb tX7_deadBy 124 = kX7_deadBy_124 := rfl
theorem tX7_deadBy_126 : tb tX7_deadBy 126 = kX7_deadBy_126 := rfl
theorem tX7_deadBy_133 : tb tX7_deadBy 133 = kX7_deadBy_133 := rfl
theorem oX7_deadBy : okT 184 tX7_deadBy = true := by decide +kernel
theorem oX7_deadBy_7 : okB 184 7 hX7_deadBy_7 = true := by decide +kernel
theorem eX7_deadBy {d : Nat} {Q : Qt} {M : Mm} {L : Ml} (a0 : Nat) (a1 : Int32) (a2 : Int32) (a3 : Int32) (h : wpN 184 d tX7_deadBy Q 60 0 [some (.ref a0), some (.int a1), some (.int a2), some (.int a3), none, none, none] [] M L) : Good d 184 [.ref a0, .int a1, .int a2, .int a3] M L Q :=
  good_of (x := [none, none, none]) (mF_pn 184 (by decide)) (mF_cn 184 (by decide)) rfl (by rw [show mL 184 = 7 by decide +kernel]; exact (show 4 ≤ 7 by decide)) rfl (by simp) (wpN_runs oX7_deadBy 60 0 _ _ _ _ h)
abbrev nX7_byTurns : Nat := 185
def kX7_byTurns_0 : List Instr := [.aload 0, .getfield 229, .ifCond .ne 10, .iconst (-1000002), .ireturn]
def kX7_byTurns_10 : List Instr := [.iload 1, .iconst 0, .iconst 3, .multianewarray 127 3, .ifCond .eq 29, .iload 2, .iconst 1, .iconst 20, .multianewarray 127 3, .ifCond .ne 32, .iconst (-1000001), .ireturn]
def kX7_byTurns_29 : List Instr := [.iconst (-1000001), .ireturn]
def kX7_byTurns_32 : List Instr := [.iconst 1, .iconst 3, .iload 1, .imul, .ishl, .istore 3, .iconst 0, .istore 4, .ret 41]
def kX7_byTurns_41 : List Instr := [.ret 41]
def kX7_byTurns_68 : List Instr := [.iload 1, .iconst 1, .isub, .istore 4, .ret 73]
def kX7_byTurns_73 : List Instr := [.ret 73]
def kX7_byTurns_86 : List Instr := [.ret 86]
def kX7_byTurns_99 : List Instr := [.ret 99]
def kX7_byTurns_145 : List Instr := [.iload 8, .iload 6, .if_icmp .ge 156, .iconst 1, .goto 157]
def kX7_byTurns_152 : List Instr := [.iconst 1, .goto 157]
def kX7_byTurns_156 : List Instr := [.iconst 0, .istore 9, .iload 8, .iconst (-1000000), .if_icmp .eq 176, .iload 9, .ifCond .eq 176, .iload 8, .goto 178]
def kX7_byTurns_157 : List Instr := [.istore 9, .iload 8, .iconst (-1000000), .if_icmp .eq 176, .iload 9, .ifCond .eq 176, .iload 8, .goto 178]
def kX7_byTurns_176 : List Instr := [.iload 6, .istore 6, .iinc 7 1, .goto 99]
def kX7_byTurns_178 : List Instr := [.istore 6, .iinc 7 1, .goto 99]
def kX7_byTurns_186 : List Instr := [.aload 0, .getstatic 245, .iload 5, .iload 6, .iastore, .iinc 5 1, .goto 86]
def kX7_byTurns_201 : List Instr := [.iinc 4 (-1), .goto 73]
def kX7_byTurns_207 : List Instr := [.aload 0, .getstatic 245, .iconst 0, .iaload, .ireturn]
def hX7_byTurns_41 : List Instr := [.iload 4, .iload 3, .if_icmp .ge 68, .aload 0, .getstatic 245, .iload 4, .aload 0, .iload 4, .iload 1, .iload 2, .invokeinterface 184 116, .iastore, .iinc 4 1, .goto 41]
def hX7_byTurns_73 : List Instr := [.iload 4, .ifCond .lt 207, .iload 3, .iconst 8, .idiv, .istore 3, .iconst 0, .istore 5, .ret 86]
def hX7_byTurns_86 : List Instr := [.iload 5, .iload 3, .if_icmp .ge 201, .iconst (-1000000), .istore 6, .iconst 0, .istore 7, .ret 99]
def hX7_byTurns_99 : List Instr := [.iload 7, .iconst 8, .if_icmp .ge 186, .aload 0, .getstatic 245, .iconst 8, .iload 5, .imul, .iload 7, .iadd, .iaload, .istore 8, .iload 6, .iconst (-1000000), .if_icmp .eq 152, .iload 4, .iconst 2, .irem, .ifCond .ne 145, .iload 8, .iload 6, .if_icmp .le 156, .goto 152]
def tX7_byTurns : Bt := [(0, kX7_byTurns_0), (10, kX7_byTurns_10), (29, kX7_byTurns_29), (32, kX7_byTurns_32), (41, kX7_byTurns_41), (68, kX7_byTurns_68), (73, kX7_byTurns_73), (86, kX7_byTurns_86), (99, kX7_byTurns_99), (145, kX7_byTurns_145), (152, kX7_byTurns_152), (156, kX7_byTurns_156), (157, kX7_byTurns_157), (176, kX7_byTurns_176), (178, kX7_byTurns_178), (186, kX7_byTurns_186), (201, kX7_byTurns_201), (207, kX7_byTurns_207)]
theorem tX7_byTurns_0 : tb tX7_byTurns 0 = kX7_byTurns_0 := rfl
theorem tX7_byTurns_10 : tb tX7_byTurns 10 = kX7_byTurns_10 := rfl
theorem tX7_byTurns_29 : tb tX7_byTurns 29 = kX7_byTurns_29 := rfl
theorem tX7_byTurns_32 : tb tX7_byTurns 32 = kX7_byTurns_32 := rfl
theorem tX7_byTurns_41 : tb tX7_byTurns 41 = kX7_byTurns_41 := rfl
theorem tX7_byTurns_68 : tb tX7_byTurns 68 = kX7_byTurns_68 := rfl
theorem tX7_byTurns_73 : tb tX7_byTurns 73 = kX7_byTurns_73 := rfl
theorem tX7_byTurns_86 : tb tX7_byTurns 86 = kX7_byTurns_86 := rfl
theorem tX7_byTurns_99 : tb tX7_byTurns 99 = kX7_byTurns_99 := rfl
theorem tX7_byTurns_145 : tb tX7_byTurns 145 = kX7_byTurns_145 := rfl
theorem tX7_byTurns_152 : tb tX7_byTurns 152 = kX7_byTurns_152 := rfl
theorem tX7_byTurns_156 : tb tX7_byTurns 156 = kX7_byTurns_156 := rfl
theorem tX7_byTurns_157 : tb tX7_byTurns 157 = kX7_byTurns_157 := rfl
theorem tX7_byTurns_176 : tb tX7_byTurns 176 = kX7_byTurns_176 := rfl
theorem tX7_byTurns_178 : tb tX7_byTurns 178 = kX7_byTurns_178 := rfl
theorem tX7_byTurns_186 : tb tX7_byTurns 186 = kX7_byTurns_186 := rfl
theorem tX7_byTurns_201 : tb tX7_byTurns 201 = kX7_byTurns_201 := rfl
theorem tX7_byTurns_207 : tb tX7_byTurns 207 = kX7_byTurns_207 := rfl
theorem oX7_byTurns : okT 185 tX7_byTurns = true := by decide +kernel
theorem oX7_byTurns_41 : okB 185 41 hX7_byTurns_41 = true := by decide +kernel
theorem oX7_byTurns_73 : okB 185 73 hX7_byTurns_73 = true := by decide +kernel
theorem oX7_byTurns_86 : okB 185 86 hX7_byTurns_86 = true := by decide +kernel
theorem oX7_byTurns_99 : okB 185 99 hX7_byTurns_99 = true := by decide +kernel
theorem eX7_byTurns {d : Nat} {Q : Qt} {M : Mm} {L : Ml} (a0 : Nat) (a1 : Int32) (a2 : Int32) (h : wpN 185 d tX7_byTurns Q 60 0 [some (.ref a0), some (.int a1), some (.int a2), none, none, none, none, none, none, none] [] M L) : Good d 185 [.ref a0, .int a1, .int a2] M L Q :=
  good_of (x := [none, none, none, none, none, none, none]) (mF_pn 185 (by decide)) (mF_cn 185 (by decide)) rfl (by rw [show mL 185 = 10 by decide +kernel]; exact (show 3 ≤ 10 by decide)) rfl (by simp) (wpN_runs oX7_byTurns 60 0 _ _ _ _ h)
abbrev nX7_isSo : Nat := 186
def kX7_isSo_0 : List Instr := [.iconst 1, .istore 4, .iconst 0, .istore 5, .ret 6]
def kX7_isSo_6 : List Instr := [.ret 6]
def kX7_isSo_54 : List Instr := [.iconst 0, .istore 4, .iinc 5 1, .goto 6]
def kX7_isSo_55 : List Instr := [.istore 4, .iinc 5 1, .goto 6]
def kX7_isSo_63 : List Instr := [.iload 4, .freturn]
def hX7_isSo_6 : List Instr := [.iload 5, .iload 3, .if_icmp .ge 63, .iload 4, .ifCond .eq 63, .aload 0, .aload 0, .getstatic 231, .invokeinterface 146 114, .pop, .aload 0, .getstatic 226, .iconst 40, .iload 1, .imul, .iload 2, .iadd, .iload 5, .iadd, .iaload, .aload 0, .getstatic 231, .multianewarray 151 1, .if_icmp .ne 54, .iconst 1, .goto 55]
def tX7_isSo : Bt := [(0, kX7_isSo_0), (6, kX7_isSo_6), (54, kX7_isSo_54), (55, kX7_isSo_55), (63, kX7_isSo_63)]
theorem tX7_isSo_0 : tb tX7_isSo 0 = kX7_isSo_0 := rfl
theorem tX7_isSo_6 : tb tX7_isSo 6 = kX7_isSo_6 := rfl
theorem tX7_isSo_54 : tb tX7_isSo 54 = kX7_isSo_54 := rfl
theorem tX7_isSo_55 : tb tX7_isSo 55 = kX7_isSo_55 := rfl
theorem tX7_isSo_63 : tb tX7_isSo 63 = kX7_isSo_63 := rfl
theorem oX7_isSo : okT 186 tX7_isSo = true := by decide +kernel
theorem oX7_isSo_6 : okB 186 6 hX7_isSo_6 = true := by decide +kernel
theorem eX7_isSo {d : Nat} {Q : Qt} {M : Mm} {L : Ml} (a0 : Nat) (a1 : Int32) (a2 : Int32) (a3 : Int32) (h : wpN 186 d tX7_isSo Q 60 0 [some (.ref a0), some (.int a1), some (.int a2), some (.int a3), none, none] [] M L) : Good d 186 [.ref a0, .int a1, .int a2, .int a3] M L Q :=
  good_of (x := [none, none]) (mF_pn 186 (by decide)) (mF_cn 186 (by decide)) rfl (by rw [show mL 186 = 6 by decide +kernel]; exact (show 4 ≤ 6 by decide)) rfl (by simp) (wpN_runs oX7_isSo 60 0 _ _ _ _ h)
abbrev nX7_who : Nat := 187
def kX7_who_0 : List Instr := [.aload 0, .iload 1, .invokeinterface 140 114, .ifCond .eq 35, .iload 2, .iconst 0, .iconst 3, .multianewarray 127 3, .ifCond .eq 35, .iload 3, .multianewarray 131 1, .ifCond .eq 35, .iload 5, .iconst 1, .iconst 12, .multianewarray 127 3, .ifCond .ne 38, .iconst (-1000001), .ireturn]
def kX7_who_35 : List Instr := [.iconst (-1000001), .ireturn]
def kX7_who_38 : List Instr := [.iload 2, .iconst 2, .if_icmp .ne 59, .aload 0, .getstatic 230, .iconst 46, .iload 1, .iadd, .iaload, .iconst 2, .if_icmp .ne 59, .iconst (-1000002), .ireturn]
def kX7_who_59 : List Instr := [.aload 0, .getstatic 224, .iload 3, .iaload, .ifCond .ge 74, .aload 0, .iconst 1, .invokeinterface 129 114, .ireturn]
def kX7_who_74 : List Instr := [.aload 0, .iload 3, .iload 4, .iload 5, .invokeinterface 135 116, .ifCond .ne 92, .aload 0, .iconst 2, .invokeinterface 129 114, .ireturn]
def kX7_who_92 : List Instr := [.iload 2, .iconst 1, .if_icmp .eq 102, .iload 2, .iconst 3, .if_icmp .ne 106, .iconst 1, .goto 107]
def kX7_who_102 : List Instr := [.iconst 1, .goto 107]
def kX7_who_106 : List Instr := [.iconst 0, .istore 6, .iload 2, .iconst 1, .if_icmp .ne 118, .iconst 5, .goto 136]
def kX7_who_107 : List Instr := [.istore 6, .iload 2, .iconst 1, .if_icmp .ne 118, .iconst 5, .goto 136]
def kX7_who_118 : List Instr := [.iload 2, .iconst 3, .if_icmp .ne 128, .iconst 9, .goto 136]
def kX7_who_128 : List Instr := [.aload 0, .getstatic 230, .iconst 0, .iaload, .iconst 1, .isub, .istore 7, .iconst 0, .istore 8, .iload 6, .istore 9, .ret 145]
def kX7_who_136 : List Instr := [.istore 7, .iconst 0, .istore 8, .iload 6, .istore 9, .ret 145]
def kX7_who_145 : List Instr := [.ret 145]
def kX7_who_162 : List Instr := [.aload 0, .getstatic 230, .iconst 1, .iaload, .invokeinterface 177 114, .iload 2, .ifCond .le 206, .aload 0, .getstatic 231, .iload 2, .iconst 1, .if_icmp .ne 189, .iconst 6, .goto 201]
def kX7_who_168 : List Instr := [.invokeinterface 177 114, .iload 2, .ifCond .le 206, .aload 0, .getstatic 231, .iload 2, .iconst 1, .if_icmp .ne 189, .iconst 6, .goto 201]
def kX7_who_189 : List Instr := [.iload 2, .iconst 2, .if_icmp .ne 199, .iconst 14, .goto 201]
def kX7_who_199 : List Instr := [.iconst 22, .iload 1, .iadd, .iload 9, .iastore, .iload 2, .iconst 2, .if_icmp .ne 217, .iload 9, .iload 1, .if_icmp .eq 221, .iconst 1, .goto 222]
def kX7_who_201 : List Instr := [.iload 1, .iadd, .iload 9, .iastore, .iload 2, .iconst 2, .if_icmp .ne 217, .iload 9, .iload 1, .if_icmp .eq 221, .iconst 1, .goto 222]
def kX7_who_206 : List Instr := [.iload 2, .iconst 2, .if_icmp .ne 217, .iload 9, .iload 1, .if_icmp .eq 221, .iconst 1, .goto 222]
def kX7_who_217 : List Instr := [.iconst 1, .goto 222]
def kX7_who_221 : List Instr := [.iconst 0, .istore 10, .iload 8, .iload 10, .ifCond .eq 250, .aload 0, .iload 3, .iload 4, .iload 5, .invokeinterface 186 116, .ifCond .eq 250, .iconst 1, .iload 9, .ishl, .goto 251]
def kX7_who_222 : List Instr := [.istore 10, .iload 8, .iload 10, .ifCond .eq 250, .aload 0, .iload 3, .iload 4, .iload 5, .invokeinterface 186 116, .ifCond .eq 250, .iconst 1, .iload 9, .ishl, .goto 251]
def kX7_who_250 : List Instr := [.iconst 0, .ior, .istore 8, .iinc 9 1, .goto 145]
def kX7_who_251 : List Instr := [.ior, .istore 8, .iinc 9 1, .goto 145]
def kX7_who_260 : List Instr := [.aload 0, .iload 8, .invokeinterface 130 114, .ireturn]
def hX7_who_145 : List Instr := [.iload 9, .iload 7, .if_icmp .gt 260, .aload 0, .iload 2, .ifCond .ne 162, .iload 9, .goto 168]
def tX7_who : Bt := [(0, kX7_who_0), (35, kX7_who_35), (38, kX7_who_38), (59, kX7_who_59), (74, kX7_who_74), (92, kX7_who_92), (102, kX7_who_102), (106, kX7_who_106), (107, kX7_who_107), (118, kX7_who_118), (128, kX7_who_128), (136, kX7_who_136), (145, kX7_who_145), (162, kX7_who_162), (168, kX7_who_168), (189, kX7_who_189), (199, kX7_who_199), (201, kX7_who_201), (206, kX7_who_206), (217, kX7_who_217), (221, kX7_who_221), (222, kX7_who_222), (250, kX7_who_250), (251, kX7_who_251), (260, kX7_who_260)]
theorem tX7_who_0 : tb tX7_who 0 = kX7_who_0 := rfl
theorem tX7_who_35 : tb tX7_who 35 = kX7_who_35 := rfl
theorem tX7_who_38 : tb tX7_who 38 = kX7_who_38 := rfl
theorem tX7_who_59 : tb tX7_who 59 = kX7_who_59 := rfl
theorem tX7_who_74 : tb tX7_who 74 = kX7_who_74 := rfl
theorem tX7_who_92 : tb tX7_who 92 = kX7_who_92 := rfl
theorem tX7_who_102 : tb tX7_who 102 = kX7_who_102 := rfl
theorem tX7_who_106 : tb tX7_who 106 = kX7_who_106 := rfl
theorem tX7_who_107 : tb tX7_who 107 = kX7_who_107 := rfl
theorem tX7_who_118 : tb tX7_who 118 = kX7_who_118 := rfl
theorem tX7_who_128 : tb tX7_who 128 = kX7_who_128 := rfl
theorem tX7_who_136 : tb tX7_who 136 = kX7_who_136 := rfl
theorem tX7_who_145 : tb tX7_who 145 = kX7_who_145 := rfl
theorem tX7_who_162 : tb tX7_who 162 = kX7_who_162 := rfl
theorem tX7_who_168 : tb tX7_who 168 = kX7_who_168 := rfl
theorem tX7_who_189 : tb tX7_who 189 = kX7_who_189 := rfl
theorem tX7_who_199 : tb tX7_who 199 = kX7_who_199 := rfl
theorem tX7_who_201 : tb tX7_who 201 = kX7_who_201 := rfl
theorem tX7_who_206 : tb tX7_who 206 = kX7_who_206 := rfl
theorem tX7_who_217 : tb tX7_who 217 = kX7_who_217 := rfl
theorem tX7_who_221 : tb tX7_who 221 = kX7_who_221 := rfl
theorem tX7_who_222 : tb tX7_who 222 = kX7_who_222 := rfl
theorem tX7_who_250 : tb tX7_who 250 = kX7_who_250 := rfl
theorem tX7_who_251 : tb tX7_who 251 = kX7_who_251 := rfl
theorem tX7_who_260 : tb tX7_who 260 = kX7_who_260 := rfl
theorem oX7_who : okT 187 tX7_who = true := by decide +kernel
theorem oX7_who_145 : okB 187 145 hX7_who_145 = true := by decide +kernel
theorem eX7_who {d : Nat} {Q : Qt} {M : Mm} {L : Ml} (a0 : Nat) (a1 : Int32) (a2 : Int32) (a3 : Int32) (a4 : Int32) (a5 : Int32) (h : wpN 187 d tX7_who Q 60 0 [some (.ref a0), some (.int a1), some (.int a2), some (.int a3), some (.int a4), some (.int a5), none, none, none, none, none] [] M L) : Good d 187 [.ref a0, .int a1, .int a2, .int a3, .int a4, .int a5] M L Q :=
  good_of (x := [none, none, none, none, none]) (mF_pn 187 (by decide)) (mF_cn 187 (by decide)) rfl (by rw [show mL 187 = 11 by decide +kernel]; exact (show 6 ≤ 11 by decide)) rfl (by simp) (wpN_runs oX7_who 60 0 _ _ _ _ h)
abbrev nX7_sleep : Nat := 188
def kX7_sleep_0 : List Instr := [.aload 0, .getfield 229, .ifCond .ne 11, .jsr (-1000002), .lreturn]
def kX7_sleep_11 : List Instr := [.iload 1, .iconst 0, .iconst 60, .multianewarray 127 3, .ifCond .eq 40, .iload 2, .iconst 0, .iconst 10, .multianewarray 127 3, .ifCond .eq 40, .iload 3, .iconst 0, .iconst 1, .multianewarray 127 3, .ifCond .ne 44, .jsr (-1000001), .lreturn]
def kX7_sleep_40 : List Instr := [.jsr (-1000001), .lreturn]
def kX7_sleep_44 : List Instr := [.iconst 1, .aload 0, .getstatic 230, .iconst 0, .iaload, .ishl, .iconst 1, .isub, .aload 0, .getstatic 230, .iconst 2, .multianewarray 149 2, .iconst (-1), .ixor, .iand, .iconst 1, .aload 0, .getstatic 230, .iconst 1, .iaload, .ishl, .iconst (-1), .ixor, .iand, .istore 4, .jsr 0, .lstore 5, .jsr 1, .lstore 7, .iconst 0, .istore 9, .ret 87]
def kX7_sleep_87 : List Instr := [.ret 87]
def kX7_sleep_108 : List Instr := [.jsr 0, .lstore 10, .iconst 0, .istore 12, .ret 114]
def kX7_sleep_109 : List Instr := [.lstore 10, .iconst 0, .istore 12, .ret 114]
def kX7_sleep_114 : List Instr := [.ret 114]
def kX7_sleep_141 : List Instr := [.iload 9, .iload 12, .multianewarray 128 2, .ifCond .eq 156, .iload 2, .i2l, .goto 162]
def kX7_sleep_156 : List Instr := [.jsr 10, .iload 2, .i2l, .lsub, .lmul, .lstore 10, .iinc 12 1, .goto 114]
def kX7_sleep_162 : List Instr := [.lmul, .lstore 10, .iinc 12 1, .goto 114]
def kX7_sleep_171 : List Instr := [.lload 10, .jsr 0, .lcmp, .ifCond .le 270, .aload 0, .invokeinterface 138 113, .aload 0, .getstatic 231, .iconst 5, .iload 9, .iastore, .iconst 0, .istore 12, .ret 193]
def kX7_sleep_193 : List Instr := [.ret 193]
def kX7_sleep_227 : List Instr := [.aload 0, .getstatic 231, .iconst 14, .iload 12, .iadd, .iaload, .iastore, .iinc 12 1, .goto 193]
def kX7_sleep_237 : List Instr := [.iastore, .iinc 12 1, .goto 193]
def kX7_sleep_244 : List Instr := [.aload 0, .iload 1, .invokeinterface 171 114, .lload 5, .aload 0, .getstatic 231, .iconst 3, .iaload, .iconst 1, .if_icmp .ne 266, .lload 10, .goto 267]
def kX7_sleep_266 : List Instr := [.jsr 0, .ladd, .lstore 5, .iinc 9 1, .goto 87]
def kX7_sleep_267 : List Instr := [.ladd, .lstore 5, .iinc 9 1, .goto 87]
def kX7_sleep_270 : List Instr := [.iinc 9 1, .goto 87]
def kX7_sleep_276 : List Instr := [.iconst 0, .istore 9, .ret 279]
def kX7_sleep_279 : List Instr := [.ret 279]
def kX7_sleep_308 : List Instr := [.jsr 1, .lmul, .lstore 7, .iinc 9 1, .goto 279]
def kX7_sleep_309 : List Instr := [.lmul, .lstore 7, .iinc 9 1, .goto 279]
def kX7_sleep_318 : List Instr := [.lload 5, .lstore 9, .lload 7, .lstore 11, .ret 326]
def kX7_sleep_326 : List Instr := [.ret 326]
def kX7_sleep_351 : List Instr := [.iload 3, .ifCond .ne 363, .lload 5, .lload 9, .ldiv, .goto 368]
def kX7_sleep_363 : List Instr := [.lload 7, .lload 9, .ldiv, .lreturn]
def kX7_sleep_368 : List Instr := [.lreturn]
def hX7_sleep_87 : List Instr := [.iload 9, .iload 4, .if_icmp .gt 276, .iload 9, .iload 4, .iconst (-1), .ixor, .iand, .ifCond .ne 108, .jsr 1, .goto 109]
def hX7_sleep_114 : List Instr := [.iload 12, .aload 0, .getstatic 230, .iconst 0, .iaload, .if_icmp .ge 171, .lload 10, .iload 4, .iload 12, .multianewarray 128 2, .ifCond .ne 141, .jsr 1, .goto 162]
def hX7_sleep_193 : List Instr := [.iload 12, .aload 0, .getstatic 230, .iconst 0, .iaload, .if_icmp .ge 244, .aload 0, .getstatic 231, .iconst 14, .iload 12, .iadd, .iload 9, .iload 12, .multianewarray 128 2, .ifCond .eq 227, .iconst (-1), .goto 237]
def hX7_sleep_279 : List Instr := [.iload 9, .aload 0, .getstatic 230, .iconst 0, .iaload, .if_icmp .ge 318, .lload 7, .iload 4, .iload 9, .multianewarray 128 2, .ifCond .eq 308, .jsr 10, .goto 309]
def hX7_sleep_326 : List Instr := [.lload 11, .jsr 0, .lcmp, .ifCond .eq 351, .lload 9, .lload 11, .lrem, .lstore 13, .lload 11, .lstore 9, .lload 13, .lstore 11, .goto 326]
def tX7_sleep : Bt := [(0, kX7_sleep_0), (11, kX7_sleep_11), (40, kX7_sleep_40), (44, kX7_sleep_44), (87, kX7_sleep_87), (108, kX7_sleep_108), (109, kX7_sleep_109), (114, kX7_sleep_114), (141, kX7_sleep_141), (156, kX7_sleep_156), (162, kX7_sleep_162), (171, kX7_sleep_171), (193, kX7_sleep_193), (227, kX7_sleep_227), (237, kX7_sleep_237), (244, kX7_sleep_244), (266, kX7_sleep_266), (267, kX7_sleep_267), (270, kX7_sleep_270), (276, kX7_sleep_276), (279, kX7_sleep_279), (308, kX7_sleep_308), (309, kX7_sleep_309), (318, kX7_sleep_318), (326, kX7_sleep_326), (351, kX7_sleep_351), (363, kX7_sleep_363), (368, kX7_sleep_368)]
theorem tX7_sleep_0 : tb tX7_sleep 0 = kX7_sleep_0 := rfl
theorem tX7_sleep_11 : tb tX7_sleep 11 = kX7_sleep_11 := rfl
theorem tX7_sleep_40 : tb tX7_sleep 40 = kX7_sleep_40 := rfl
theorem tX7_sleep_44 : tb tX7_sleep 44 = kX7_sleep_44 := rfl
theorem tX7_sleep_87 : tb tX7_sleep 87 = kX7_sleep_87 := rfl
theorem tX7_sleep_108 : tb tX7_sleep 108 = kX7_sleep_108 := rfl
theorem tX7_sleep_109 : tb tX7_sleep 109 = kX7_sleep_109 := rfl
theorem tX7_sleep_114 : tb tX7_sleep 114 = kX7_sleep_114 := rfl
theorem tX7_sleep_141 : tb tX7_sleep 141 = kX7_sleep_141 := rfl
theorem tX7_sleep_156 : tb tX7_sleep 156 = kX7_sleep_156 := rfl
theorem tX7_sleep_162 : tb tX7_sleep 162 = kX7_sleep_162 := rfl
theorem tX7_sleep_171 : tb tX7_sleep 171 = kX7_sleep_171 := rfl
theorem tX7_sleep_193 : tb tX7_sleep 193 = kX7_sleep_193 := rfl
theorem tX7_sleep_227 : tb tX7_sleep 227 = kX7_sleep_227 := rfl
theorem tX7_sleep_237 : tb tX7_sleep 237 = kX7_sleep_237 := rfl
theorem tX7_sleep_244 : tb tX7_sleep 244 = kX7_sleep_244 := rfl
theorem tX7_sleep_266 : tb tX7_sleep 266 = kX7_sleep_266 := rfl
theorem tX7_sleep_267 : tb tX7_sleep 267 = kX7_sleep_267 := rfl
theorem tX7_sleep_270 : tb tX7_sleep 270 = kX7_sleep_270 := rfl
theorem tX7_sleep_276 : tb tX7_sleep 276 = kX7_sleep_276 := rfl
theorem tX7_sleep_279 : tb tX7_sleep 279 = kX7_sleep_279 := rfl
theorem tX7_sleep_308 : tb tX7_sleep 308 = kX7_sleep_308 := rfl
theorem tX7_sleep_309 : tb tX7_sleep 309 = kX7_sleep_309 := rfl
theorem tX7_sleep_318 : tb tX7_sleep 318 = kX7_sleep_318 := rfl
theorem tX7_sleep_326 : tb tX7_sleep 326 = kX7_sleep_326 := rfl
theorem tX7_sleep_351 : tb tX7_sleep 351 = kX7_sleep_351 := rfl
theorem tX7_sleep_363 : tb tX7_sleep 363 = kX7_sleep_363 := rfl
theorem tX7_sleep_368 : tb tX7_sleep 368 = kX7_sleep_368 := rfl
theorem oX7_sleep : okT 188 tX7_sleep = true := by decide +kernel
theorem oX7_sleep_87 : okB 188 87 hX7_sleep_87 = true := by decide +kernel
theorem oX7_sleep_114 : okB 188 114 hX7_sleep_114 = true := by decide +kernel
theorem oX7_sleep_193 : okB 188 193 hX7_sleep_193 = true := by decide +kernel
theorem oX7_sleep_279 : okB 188 279 hX7_sleep_279 = true := by decide +kernel
theorem oX7_sleep_326 : okB 188 326 hX7_sleep_326 = true := by decide +kernel
theorem eX7_sleep {d : Nat} {Q : Qt} {M : Mm} {L : Ml} (a0 : Nat) (a1 : Int32) (a2 : Int32) (a3 : Int32) (h : wpN 188 d tX7_sleep Q 60 0 [some (.ref a0), some (.int a1), some (.int a2), some (.int a3), none, none, none, none, none, none, none, none, none, none, none] [] M L) : Good d 188 [.ref a0, .int a1, .int a2, .int a3] M L Q :=
  good_of (x := [none, none, none, none, none, none, none, none, none, none, none]) (mF_pn 188 (by decide)) (mF_cn 188 (by decide)) rfl (by rw [show mL 188 = 15 by decide +kernel]; exact (show 4 ≤ 15 by decide)) rfl (by simp) (wpN_runs oX7_sleep 60 0 _ _ _ _ h)
abbrev nX7_drawn : Nat := 189
def kX7_drawn_0 : List Instr := [.aload 0, .getfield 229, .ifCond .ne 10, .iconst (-1000002), .ireturn]
def kX7_drawn_10 : List Instr := [.iload 1, .iconst 0, .iconst 60, .multianewarray 127 3, .ifCond .eq 39, .iload 2, .iconst 1, .iconst 999999, .multianewarray 127 3, .ifCond .eq 39, .iload 3, .iconst 0, .iconst 1, .multianewarray 127 3, .ifCond .ne 42, .iconst (-1000001), .ireturn]
def kX7_drawn_39 : List Instr := [.iconst (-1000001), .ireturn]
def kX7_drawn_42 : List Instr := [.aload 0, .invokeinterface 138 113, .iload 2, .i2l, .lstore 4, .iconst 0, .istore 6, .iconst 0, .istore 7, .iconst 0, .istore 8, .ret 59]
def kX7_drawn_59 : List Instr := [.ret 59]
def kX7_drawn_133 : List Instr := [.lload 4, .jsr 3, .lrem, .jsr 0, .lcmp, .ifCond .ne 163, .iload 10, .iload 9, .if_icmp .eq 163, .aload 0, .getstatic 231, .iconst 14, .iload 9, .iadd, .iload 10, .iastore, .aload 0, .getstatic 231, .iconst 3, .iaload, .iconst 1, .if_icmp .ne 182, .aload 0, .getstatic 231, .iload 9, .multianewarray 147 2, .iload 6, .aload 0, .aload 0, .getstatic 231, .invokeinterface 146 114, .iadd, .istore 6, .iload 7, .aload 0, .getstatic 231, .iconst 3, .iaload, .iadd, .istore 7, .iinc 8 1, .goto 59]
def kX7_drawn_163 : List Instr := [.aload 0, .getstatic 231, .iconst 3, .iaload, .iconst 1, .if_icmp .ne 182, .aload 0, .getstatic 231, .iload 9, .multianewarray 147 2, .iload 6, .aload 0, .aload 0, .getstatic 231, .invokeinterface 146 114, .iadd, .istore 6, .iload 7, .aload 0, .getstatic 231, .iconst 3, .iaload, .iadd, .istore 7, .iinc 8 1, .goto 59]
def kX7_drawn_182 : List Instr := [.iload 6, .aload 0, .aload 0, .getstatic 231, .invokeinterface 146 114, .iadd, .istore 6, .iload 7, .aload 0, .getstatic 231, .iconst 3, .iaload, .iadd, .istore 7, .iinc 8 1, .goto 59]
def kX7_drawn_212 : List Instr := [.iload 3, .ifCond .ne 221, .iload 6, .goto 223]
def kX7_drawn_221 : List Instr := [.iload 7, .ireturn]
def kX7_drawn_223 : List Instr := [.ireturn]
def hX7_drawn_59 : List Instr := [.iload 8, .iload 1, .if_icmp .ge 212, .lload 4, .jsr 16807, .lmul, .jsr 2147483647, .lrem, .lstore 4, .lload 4, .aload 0, .getstatic 231, .iconst 0, .iaload, .i2l, .lrem, .l2i, .istore 9, .lload 4, .jsr 8, .ldiv, .aload 0, .getstatic 231, .iconst 0, .iaload, .i2l, .lrem, .l2i, .istore 10, .aload 0, .getstatic 231, .iconst 46, .iload 9, .iadd, .iaload, .iconst 2, .if_icmp .ne 133, .aload 0, .getstatic 231, .iload 9, .multianewarray 148 2, .goto 163]
def tX7_drawn : Bt := [(0, kX7_drawn_0), (10, kX7_drawn_10), (39, kX7_drawn_39), (42, kX7_drawn_42), (59, kX7_drawn_59), (133, kX7_drawn_133), (163, kX7_drawn_163), (182, kX7_drawn_182), (212, kX7_drawn_212), (221, kX7_drawn_221), (223, kX7_drawn_223)]
theorem tX7_drawn_0 : tb tX7_drawn 0 = kX7_drawn_0 := rfl
theorem tX7_drawn_10 : tb tX7_drawn 10 = kX7_drawn_10 := rfl
theorem tX7_drawn_39 : tb tX7_drawn 39 = kX7_drawn_39 := rfl
theorem tX7_drawn_42 : tb tX7_drawn 42 = kX7_drawn_42 := rfl
theorem tX7_drawn_59 : tb tX7_drawn 59 = kX7_drawn_59 := rfl
theorem tX7_drawn_133 : tb tX7_drawn 133 = kX7_drawn_133 := rfl
theorem tX7_drawn_163 : tb tX7_drawn 163 = kX7_drawn_163 := rfl
theorem tX7_drawn_182 : tb tX7_drawn 182 = kX7_drawn_182 := rfl
theorem tX7_drawn_212 : tb tX7_drawn 212 = kX7_drawn_212 := rfl
theorem tX7_drawn_221 : tb tX7_drawn 221 = kX7_drawn_221 := rfl
theorem tX7_drawn_223 : tb tX7_drawn 223 = kX7_drawn_223 := rfl
theorem oX7_drawn : okT 189 tX7_drawn = true := by decide +kernel
theorem oX7_drawn_59 : okB 189 59 hX7_drawn_59 = true := by decide +kernel
theorem eX7_drawn {d : Nat} {Q : Qt} {M : Mm} {L : Ml} (a0 : Nat) (a1 : Int32) (a2 : Int32) (a3 : Int32) (h : wpN 189 d tX7_drawn Q 60 0 [some (.ref a0), some (.int a1), some (.int a2), some (.int a3), none, none, none, none, none, none, none] [] M L) : Good d 189 [.ref a0, .int a1, .int a2, .int a3] M L Q :=
  good_of (x := [none, none, none, none, none, none, none]) (mF_pn 189 (by decide)) (mF_cn 189 (by decide)) rfl (by rw [show mL 189 = 11 by decide +kernel]; exact (show 4 ≤ 11 by decide)) rfl (by simp) (wpN_runs oX7_drawn 60 0 _ _ _ _ h)
abbrev nX7_image : Nat := 190
def kX7_image_0 : List Instr := [.iload 1, .iconst 0, .iconst 1, .multianewarray 127 3, .ifCond .ne 12, .iconst (-1000001), .ireturn]
def kX7_image_12 : List Instr := [.aload 0, .getfield 229, .ifCond .ne 22, .iconst (-1000002), .ireturn]
def kX7_image_22 : List Instr := [.iconst 0, .istore 2, .ret 24]
def kX7_image_24 : List Instr := [.ret 24]
def kX7_image_53 : List Instr := [.aload 0, .getstatic 235, .iload 1, .iconst 1, .castore, .iconst 1, .ireturn]
def hX7_image_24 : List Instr := [.iload 2, .iconst 54, .if_icmp .ge 53, .aload 0, .getstatic 234, .iconst 54, .iload 1, .imul, .iload 2, .iadd, .aload 0, .getstatic 230, .iload 2, .iaload, .iastore, .iinc 2 1, .goto 24]
def tX7_image : Bt := [(0, kX7_image_0), (12, kX7_image_12), (22, kX7_image_22), (24, kX7_image_24), (53, kX7_image_53)]
theorem tX7_image_0 : tb tX7_image 0 = kX7_image_0 := rfl
theorem tX7_image_12 : tb tX7_image 12 = kX7_image_12 := rfl
theorem tX7_image_22 : tb tX7_image 22 = kX7_image_22 := rfl
theorem tX7_image_24 : tb tX7_image 24 = kX7_image_24 := rfl
theorem tX7_image_53 : tb tX7_image 53 = kX7_image_53 := rfl
theorem oX7_image : okT 190 tX7_image = true := by decide +kernel
theorem oX7_image_24 : okB 190 24 hX7_image_24 = true := by decide +kernel
theorem eX7_image {d : Nat} {Q : Qt} {M : Mm} {L : Ml} (a0 : Nat) (a1 : Int32) (h : wpN 190 d tX7_image Q 60 0 [some (.ref a0), some (.int a1), none] [] M L) : Good d 190 [.ref a0, .int a1] M L Q :=
  good_of (x := [none]) (mF_pn 190 (by decide)) (mF_cn 190 (by decide)) rfl (by rw [show mL 190 = 3 by decide +kernel]; exact (show 2 ≤ 3 by decide)) rfl (by simp) (wpN_runs oX7_image 60 0 _ _ _ _ h)
abbrev nX7_restore : Nat := 191
def kX7_restore_0 : List Instr := [.iload 1, .iconst 0, .iconst 1, .multianewarray 127 3, .ifCond .ne 12, .iconst (-1000001), .ireturn]
def kX7_restore_12 : List Instr := [.aload 0, .getstatic 235, .iload 1, .caload, .ifCond .ne 24, .iconst (-1000002), .ireturn]
def kX7_restore_24 : List Instr := [.iconst 0, .istore 2, .ret 26]
def kX7_restore_26 : List Instr := [.ret 26]
def kX7_restore_55 : List Instr := [.aload 0, .iconst 0, .putfield 233, .iconst 1, .ireturn]
def hX7_restore_26 : List Instr := [.iload 2, .iconst 54, .if_icmp .ge 55, .aload 0, .getstatic 230, .iload 2, .aload 0, .getstatic 234, .iconst 54, .iload 1, .imul, .iload 2, .iadd, .iaload, .iastore, .iinc 2 1, .goto 26]
def tX7_restore : Bt := [(0, kX7_restore_0), (12, kX7_restore_12), (24, kX7_restore_24), (26, kX7_restore_26), (55, kX7_restore_55)]
theorem tX7_restore_0 : tb tX7_restore 0 = kX7_restore_0 := rfl
theorem tX7_restore_12 : tb tX7_restore 12 = kX7_restore_12 := rfl
theorem tX7_restore_24 : tb tX7_restore 24 = kX7_restore_24 := rfl
theorem tX7_restore_26 : tb tX7_restore 26 = kX7_restore_26 := rfl
theorem tX7_restore_55 : tb tX7_restore 55 = kX7_restore_55 := rfl
theorem oX7_restore : okT 191 tX7_restore = true := by decide +kernel
theorem oX7_restore_26 : okB 191 26 hX7_restore_26 = true := by decide +kernel
theorem eX7_restore {d : Nat} {Q : Qt} {M : Mm} {L : Ml} (a0 : Nat) (a1 : Int32) (h : wpN 191 d tX7_restore Q 60 0 [some (.ref a0), some (.int a1), none] [] M L) : Good d 191 [.ref a0, .int a1] M L Q :=
  good_of (x := [none]) (mF_pn 191 (by decide)) (mF_cn 191 (by decide)) rfl (by rw [show mL 191 = 3 by decide +kernel]; exact (show 2 ≤ 3 by decide)) rfl (by simp) (wpN_runs oX7_restore 60 0 _ _ _ _ h)
abbrev nX7_leave : Nat := 192
def kX7_leave_0 : List Instr := [.aload 0, .getfield 247, .iconst 16, .if_icmp .ge 29, .aload 0, .getstatic 246, .aload 0, .getfield 247, .iload 1, .iastore, .aload 0, .dup, .getfield 247, .iconst 1, .iadd, .putfield 247, .return_]
def kX7_leave_29 : List Instr := [.return_]
def tX7_leave : Bt := [(0, kX7_leave_0), (29, kX7_leave_29)]
theorem tX7_leave_0 : tb tX7_leave 0 = kX7_leave_0 := rfl
theorem tX7_leave_29 : tb tX7_leave 29 = kX7_leave_29 := rfl
theorem oX7_leave : okT 192 tX7_leave = true := by decide +kernel
theorem eX7_leave {d : Nat} {Q : Qt} {M : Mm} {L : Ml} (a0 : Nat) (a1 : Int32) (h : wpN 192 d tX7_leave Q 60 0 [some (.ref a0), some (.int a1)] [] M L) : Good d 192 [.ref a0, .int a1] M L Q :=
  good_of (x := []) (mF_pn 192 (by decide)) (mF_cn 192 (by decide)) rfl (by rw [show mL 192 = 2 by decide +kernel]; exact (show 2 ≤ 2 by decide)) rfl (by simp) (wpN_runs oX7_leave 60 0 _ _ _ _ h)
abbrev nX7_kind : Nat := 193
def kX7_kind_0 : List Instr := [.aload 0, .iload 1, .invokeinterface 140 114, .ifCond .eq 20, .aload 0, .getstatic 230, .iconst 6, .iload 1, .iadd, .iaload, .goto 22]
def kX7_kind_20 : List Instr := [.iconst (-1000001), .ireturn]
def kX7_kind_22 : List Instr := [.ireturn]
def tX7_kind : Bt := [(0, kX7_kind_0), (20, kX7_kind_20), (22, kX7_kind_22)]
theorem tX7_kind_0 : tb tX7_kind 0 = kX7_kind_0 := rfl
theorem tX7_kind_20 : tb tX7_kind 20 = kX7_kind_20 := rfl
theorem tX7_kind_22 : tb tX7_kind 22 = kX7_kind_22 := rfl
theorem oX7_kind : okT 193 tX7_kind = true := by decide +kernel
theorem eX7_kind {d : Nat} {Q : Qt} {M : Mm} {L : Ml} (a0 : Nat) (a1 : Int32) (h : wpN 193 d tX7_kind Q 60 0 [some (.ref a0), some (.int a1)] [] M L) : Good d 193 [.ref a0, .int a1] M L Q :=
  good_of (x := []) (mF_pn 193 (by decide)) (mF_cn 193 (by decide)) rfl (by rw [show mL 193 = 2 by decide +kernel]; exact (show 2 ≤ 2 by decide)) rfl (by simp) (wpN_runs oX7_kind 60 0 _ _ _ _ h)
abbrev nX7_as : Nat := 194
def kX7_as_0 : List Instr := [.aload 0, .iload 1, .invokeinterface 140 114, .ifCond .eq 17, .iload 2, .iconst 0, .iconst 5, .multianewarray 127 3, .ifCond .ne 20, .iconst (-1000001), .ireturn]
def kX7_as_17 : List Instr := [.iconst (-1000001), .ireturn]
def kX7_as_20 : List Instr := [.aload 0, .getstatic 230, .iconst 6, .iload 1, .iadd, .iaload, .istore 3, .iload 2, .ifCond .eq 59, .iload 2, .iload 3, .if_icmp .eq 59, .iload 2, .iconst 1, .if_icmp .ne 49, .iload 3, .iconst 3, .if_icmp .le 59, .iload 2, .iconst 4, .if_icmp .ne 63, .iload 3, .iconst 5, .if_icmp .ne 63, .iconst 1, .goto 64]
def kX7_as_49 : List Instr := [.iload 2, .iconst 4, .if_icmp .ne 63, .iload 3, .iconst 5, .if_icmp .ne 63, .iconst 1, .goto 64]
def kX7_as_59 : List Instr := [.iconst 1, .goto 64]
def kX7_as_63 : List Instr := [.iconst 0, .istore 4, .iload 4, .ifCond .eq 79, .aload 0, .iload 1, .invokeinterface 130 114, .goto 84]
def kX7_as_64 : List Instr := [.istore 4, .iload 4, .ifCond .eq 79, .aload 0, .iload 1, .invokeinterface 130 114, .goto 84]
def kX7_as_79 : List Instr := [.aload 0, .iconst 3, .invokeinterface 129 114, .ireturn]
def kX7_as_84 : List Instr := [.ireturn]
def tX7_as : Bt := [(0, kX7_as_0), (17, kX7_as_17), (20, kX7_as_20), (49, kX7_as_49), (59, kX7_as_59), (63, kX7_as_63), (64, kX7_as_64), (79, kX7_as_79), (84, kX7_as_84)]
theorem tX7_as_0 : tb tX7_as 0 = kX7_as_0 := rfl
theorem tX7_as_17 : tb tX7_as 17 = kX7_as_17 := rfl
theorem tX7_as_20 : tb tX7_as 20 = kX7_as_20 := rfl
theorem tX7_as_49 : tb tX7_as 49 = kX7_as_49 := rfl
theorem tX7_as_59 : tb tX7_as 59 = kX7_as_59 := rfl
theorem tX7_as_63 : tb tX7_as 63 = kX7_as_63 := rfl
theorem tX7_as_64 : tb tX7_as 64 = kX7_as_64 := rfl
theorem tX7_as_79 : tb tX7_as 79 = kX7_as_79 := rfl
theorem tX7_as_84 : tb tX7_as 84 = kX7_as_84 := rfl
theorem oX7_as : okT 194 tX7_as = true := by decide +kernel
theorem eX7_as {d : Nat} {Q : Qt} {M : Mm} {L : Ml} (a0 : Nat) (a1 : Int32) (a2 : Int32) (h : wpN 194 d tX7_as Q 60 0 [some (.ref a0), some (.int a1), some (.int a2), none, none] [] M L) : Good d 194 [.ref a0, .int a1, .int a2] M L Q :=
  good_of (x := [none, none]) (mF_pn 194 (by decide)) (mF_cn 194 (by decide)) rfl (by rw [show mL 194 = 5 by decide +kernel]; exact (show 3 ≤ 5 by decide)) rfl (by simp) (wpN_runs oX7_as 60 0 _ _ _ _ h)
abbrev nX7_body10 : Nat := 195
def kX7_body10_0 : List Instr := [.aload 0, .iconst 10, .invokeinterface 192 114, .aload 0, .getstatic 230, .iconst 22, .iload 1, .iadd, .iaload, .ireturn]
def tX7_body10 : Bt := [(0, kX7_body10_0)]
theorem tX7_body10_0 : tb tX7_body10 0 = kX7_body10_0 := rfl
theorem oX7_body10 : okT 195 tX7_body10 = true := by decide +kernel
theorem eX7_body10 {d : Nat} {Q : Qt} {M : Mm} {L : Ml} (a0 : Nat) (a1 : Int32) (h : wpN 195 d tX7_body10 Q 60 0 [some (.ref a0), some (.int a1)] [] M L) : Good d 195 [.ref a0, .int a1] M L Q :=
  good_of (x := []) (mF_pn 195 (by decide)) (mF_cn 195 (by decide)) rfl (by rw [show mL 195 = 2 by decide +kernel]; exact (show 2 ≤ 2 by decide)) rfl (by simp) (wpN_runs oX7_body10 60 0 _ _ _ _ h)
abbrev nX7_body20 : Nat := 196
def kX7_body20_0 : List Instr := [.aload 0, .iconst 20, .invokeinterface 192 114, .iload 1, .ireturn]
def tX7_body20 : Bt := [(0, kX7_body20_0)]
theorem tX7_body20_0 : tb tX7_body20 0 = kX7_body20_0 := rfl
theorem oX7_body20 : okT 196 tX7_body20 = true := by decide +kernel
theorem eX7_body20 {d : Nat} {Q : Qt} {M : Mm} {L : Ml} (a0 : Nat) (a1 : Int32) (h : wpN 196 d tX7_body20 Q 60 0 [some (.ref a0), some (.int a1)] [] M L) : Good d 196 [.ref a0, .int a1] M L Q :=
  good_of (x := []) (mF_pn 196 (by decide)) (mF_cn 196 (by decide)) rfl (by rw [show mL 196 = 2 by decide +kernel]; exact (show 2 ≤ 2 by decide)) rfl (by simp) (wpN_runs oX7_body20 60 0 _ _ _ _ h)
abbrev nX7_body21 : Nat := 197
def kX7_body21_0 : List Instr := [.aload 0, .iconst 21, .invokeinterface 192 114, .aload 0, .iload 1, .invokeinterface 196 114, .aload 0, .getstatic 230, .iconst 38, .iload 1, .iadd, .iaload, .iadd, .ireturn]
def tX7_body21 : Bt := [(0, kX7_body21_0)]
theorem tX7_body21_0 : tb tX7_body21 0 = kX7_body21_0 := rfl
theorem oX7_body21 : okT 197 tX7_body21 = true := by decide +kernel
theorem eX7_body21 {d : Nat} {Q : Qt} {M : Mm} {L : Ml} (a0 : Nat) (a1 : Int32) (h : wpN 197 d tX7_body21 Q 60 0 [some (.ref a0), some (.int a1)] [] M L) : Good d 197 [.ref a0, .int a1] M L Q :=
  good_of (x := []) (mF_pn 197 (by decide)) (mF_cn 197 (by decide)) rfl (by rw [show mL 197 = 2 by decide +kernel]; exact (show 2 ≤ 2 by decide)) rfl (by simp) (wpN_runs oX7_body21 60 0 _ _ _ _ h)
abbrev nX7_markOfRover : Nat := 198
def kX7_markOfRover_0 : List Instr := [.aload 0, .getstatic 230, .iconst 6, .iload 1, .iadd, .iaload, .lookupswitch 66 #[(2, 36), (3, 50)]]
def kX7_markOfRover_36 : List Instr := [.aload 0, .iconst 24, .invokeinterface 192 114, .iconst 2, .aload 0, .iload 1, .invokeinterface 197 114, .imul, .ireturn]
def kX7_markOfRover_50 : List Instr := [.aload 0, .iconst 22, .invokeinterface 192 114, .aload 0, .iload 1, .invokeinterface 197 114, .iconst 1000, .isub, .ireturn]
def kX7_markOfRover_66 : List Instr := [.aload 0, .iload 1, .invokeinterface 197 114, .ireturn]
def tX7_markOfRover : Bt := [(0, kX7_markOfRover_0), (36, kX7_markOfRover_36), (50, kX7_markOfRover_50), (66, kX7_markOfRover_66)]
theorem tX7_markOfRover_0 : tb tX7_markOfRover 0 = kX7_markOfRover_0 := rfl
theorem tX7_markOfRover_36 : tb tX7_markOfRover 36 = kX7_markOfRover_36 := rfl
theorem tX7_markOfRover_50 : tb tX7_markOfRover 50 = kX7_markOfRover_50 := rfl
theorem tX7_markOfRover_66 : tb tX7_markOfRover 66 = kX7_markOfRover_66 := rfl
theorem oX7_markOfRover : okT 198 tX7_markOfRover = true := by decide +kernel
theorem eX7_markOfRover {d : Nat} {Q : Qt} {M : Mm} {L : Ml} (a0 : Nat) (a1 : Int32) (h : wpN 198 d tX7_markOfRover Q 60 0 [some (.ref a0), some (.int a1)] [] M L) : Good d 198 [.ref a0, .int a1] M L Q :=
  good_of (x := []) (mF_pn 198 (by decide)) (mF_cn 198 (by decide)) rfl (by rw [show mL 198 = 2 by decide +kernel]; exact (show 2 ≤ 2 by decide)) rfl (by simp) (wpN_runs oX7_markOfRover 60 0 _ _ _ _ h)
abbrev nX7_body11 : Nat := 199
def kX7_body11_0 : List Instr := [.aload 0, .iconst 11, .invokeinterface 192 114, .aload 0, .iload 1, .invokeinterface 195 114, .istore 2, .iload 2, .aload 0, .iload 1, .invokeinterface 198 114, .iadd, .ireturn]
def tX7_body11 : Bt := [(0, kX7_body11_0)]
theorem tX7_body11_0 : tb tX7_body11 0 = kX7_body11_0 := rfl
theorem oX7_body11 : okT 199 tX7_body11 = true := by decide +kernel
theorem eX7_body11 {d : Nat} {Q : Qt} {M : Mm} {L : Ml} (a0 : Nat) (a1 : Int32) (h : wpN 199 d tX7_body11 Q 60 0 [some (.ref a0), some (.int a1), none] [] M L) : Good d 199 [.ref a0, .int a1] M L Q :=
  good_of (x := [none]) (mF_pn 199 (by decide)) (mF_cn 199 (by decide)) rfl (by rw [show mL 199 = 3 by decide +kernel]; exact (show 2 ≤ 3 by decide)) rfl (by simp) (wpN_runs oX7_body11 60 0 _ _ _ _ h)
abbrev nX7_body13 : Nat := 200
def kX7_body13_0 : List Instr := [.aload 0, .iconst 13, .invokeinterface 192 114, .aload 0, .iload 1, .invokeinterface 195 114, .iconst 100, .isub, .ireturn]
def tX7_body13 : Bt := [(0, kX7_body13_0)]
theorem tX7_body13_0 : tb tX7_body13 0 = kX7_body13_0 := rfl
theorem oX7_body13 : okT 200 tX7_body13 = true := by decide +kernel
theorem eX7_body13 {d : Nat} {Q : Qt} {M : Mm} {L : Ml} (a0 : Nat) (a1 : Int32) (h : wpN 200 d tX7_body13 Q 60 0 [some (.ref a0), some (.int a1)] [] M L) : Good d 200 [.ref a0, .int a1] M L Q :=
  good_of (x := []) (mF_pn 200 (by decide)) (mF_cn 200 (by decide)) rfl (by rw [show mL 200 = 2 by decide +kernel]; exact (show 2 ≤ 2 by decide)) rfl (by simp) (wpN_runs oX7_body13 60 0 _ _ _ _ h)
abbrev nX7_sizeOf : Nat := 201
def kX7_sizeOf_0 : List Instr := [.aload 0, .getstatic 230, .iconst 6, .iload 1, .iadd, .iaload, .lookupswitch 73 #[(2, 40), (3, 73), (4, 53), (5, 59)]]
def kX7_sizeOf_40 : List Instr := [.aload 0, .iconst 12, .invokeinterface 192 114, .aload 0, .iload 1, .invokeinterface 199 114, .ineg, .ireturn]
def kX7_sizeOf_53 : List Instr := [.aload 0, .iload 1, .invokeinterface 200 114, .ireturn]
def kX7_sizeOf_59 : List Instr := [.aload 0, .iconst 14, .invokeinterface 192 114, .iconst 2, .aload 0, .iload 1, .invokeinterface 200 114, .imul, .ireturn]
def kX7_sizeOf_73 : List Instr := [.aload 0, .iload 1, .invokeinterface 199 114, .ireturn]
def tX7_sizeOf : Bt := [(0, kX7_sizeOf_0), (40, kX7_sizeOf_40), (53, kX7_sizeOf_53), (59, kX7_sizeOf_59), (73, kX7_sizeOf_73)]
theorem tX7_sizeOf_0 : tb tX7_sizeOf 0 = kX7_sizeOf_0 := rfl
theorem tX7_sizeOf_40 : tb tX7_sizeOf 40 = kX7_sizeOf_40 := rfl
theorem tX7_sizeOf_53 : tb tX7_sizeOf 53 = kX7_sizeOf_53 := rfl
theorem tX7_sizeOf_59 : tb tX7_sizeOf 59 = kX7_sizeOf_59 := rfl
theorem tX7_sizeOf_73 : tb tX7_sizeOf 73 = kX7_sizeOf_73 := rfl
theorem oX7_sizeOf : okT 201 tX7_sizeOf = true := by decide +kernel
theorem eX7_sizeOf {d : Nat} {Q : Qt} {M : Mm} {L : Ml} (a0 : Nat) (a1 : Int32) (h : wpN 201 d tX7_sizeOf Q 60 0 [some (.ref a0), some (.int a1)] [] M L) : Good d 201 [.ref a0, .int a1] M L Q :=
  good_of (x := []) (mF_pn 201 (by decide)) (mF_cn 201 (by decide)) rfl (by rw [show mL 201 = 2 by decide +kernel]; exact (show 2 ≤ 2 by decide)) rfl (by simp) (wpN_runs oX7_sizeOf 60 0 _ _ _ _ h)
abbrev nX7_markOf : Nat := 202
def kX7_markOf_0 : List Instr := [.aload 0, .getstatic 230, .iconst 6, .iload 1, .iadd, .iaload, .iconst 4, .if_icmp .ge 19, .aload 0, .iload 1, .invokeinterface 198 114, .ireturn]
def kX7_markOf_19 : List Instr := [.aload 0, .iconst 23, .invokeinterface 192 114, .aload 0, .iload 1, .invokeinterface 196 114, .istore 2, .iload 2, .aload 0, .iload 1, .invokeinterface 201 114, .isub, .ireturn]
def tX7_markOf : Bt := [(0, kX7_markOf_0), (19, kX7_markOf_19)]
theorem tX7_markOf_0 : tb tX7_markOf 0 = kX7_markOf_0 := rfl
theorem tX7_markOf_19 : tb tX7_markOf 19 = kX7_markOf_19 := rfl
theorem oX7_markOf : okT 202 tX7_markOf = true := by decide +kernel
theorem eX7_markOf {d : Nat} {Q : Qt} {M : Mm} {L : Ml} (a0 : Nat) (a1 : Int32) (h : wpN 202 d tX7_markOf Q 60 0 [some (.ref a0), some (.int a1), none] [] M L) : Good d 202 [.ref a0, .int a1] M L Q :=
  good_of (x := [none]) (mF_pn 202 (by decide)) (mF_cn 202 (by decide)) rfl (by rw [show mL 202 = 3 by decide +kernel]; exact (show 2 ≤ 3 by decide)) rfl (by simp) (wpN_runs oX7_markOf 60 0 _ _ _ _ h)
abbrev nX7_ask : Nat := 203
def kX7_ask_0 : List Instr := [.aload 0, .iload 1, .invokeinterface 140 114, .ifCond .eq 17, .iload 2, .iconst 0, .iconst 1, .multianewarray 127 3, .ifCond .ne 20, .iconst (-1000001), .ireturn]
def kX7_ask_17 : List Instr := [.iconst (-1000001), .ireturn]
def kX7_ask_20 : List Instr := [.aload 0, .iconst 0, .putfield 247, .iload 2, .ifCond .ne 37, .aload 0, .iload 1, .invokeinterface 201 114, .goto 42]
def kX7_ask_37 : List Instr := [.aload 0, .iload 1, .invokeinterface 202 114, .ireturn]
def kX7_ask_42 : List Instr := [.ireturn]
def tX7_ask : Bt := [(0, kX7_ask_0), (17, kX7_ask_17), (20, kX7_ask_20), (37, kX7_ask_37), (42, kX7_ask_42)]
theorem tX7_ask_0 : tb tX7_ask 0 = kX7_ask_0 := rfl
theorem tX7_ask_17 : tb tX7_ask 17 = kX7_ask_17 := rfl
theorem tX7_ask_20 : tb tX7_ask 20 = kX7_ask_20 := rfl
theorem tX7_ask_37 : tb tX7_ask 37 = kX7_ask_37 := rfl
theorem tX7_ask_42 : tb tX7_ask 42 = kX7_ask_42 := rfl
theorem oX7_ask : okT 203 tX7_ask = true := by decide +kernel
theorem eX7_ask {d : Nat} {Q : Qt} {M : Mm} {L : Ml} (a0 : Nat) (a1 : Int32) (a2 : Int32) (h : wpN 203 d tX7_ask Q 60 0 [some (.ref a0), some (.int a1), some (.int a2)] [] M L) : Good d 203 [.ref a0, .int a1, .int a2] M L Q :=
  good_of (x := []) (mF_pn 203 (by decide)) (mF_cn 203 (by decide)) rfl (by rw [show mL 203 = 3 by decide +kernel]; exact (show 3 ≤ 3 by decide)) rfl (by simp) (wpN_runs oX7_ask 60 0 _ _ _ _ h)
abbrev nX7_trace : Nat := 204
def kX7_trace_0 : List Instr := [.iload 1, .iconst 0, .aload 0, .getfield 247, .iconst 1, .isub, .multianewarray 127 3, .ifCond .eq 23, .aload 0, .getstatic 246, .iload 1, .iaload, .goto 25]
def kX7_trace_23 : List Instr := [.iconst (-1000000), .ireturn]
def kX7_trace_25 : List Instr := [.ireturn]
def tX7_trace : Bt := [(0, kX7_trace_0), (23, kX7_trace_23), (25, kX7_trace_25)]
theorem tX7_trace_0 : tb tX7_trace 0 = kX7_trace_0 := rfl
theorem tX7_trace_23 : tb tX7_trace 23 = kX7_trace_23 := rfl
theorem tX7_trace_25 : tb tX7_trace 25 = kX7_trace_25 := rfl
theorem oX7_trace : okT 204 tX7_trace = true := by decide +kernel
theorem eX7_trace {d : Nat} {Q : Qt} {M : Mm} {L : Ml} (a0 : Nat) (a1 : Int32) (h : wpN 204 d tX7_trace Q 60 0 [some (.ref a0), some (.int a1)] [] M L) : Good d 204 [.ref a0, .int a1] M L Q :=
  good_of (x := []) (mF_pn 204 (by decide)) (mF_cn 204 (by decide)) rfl (by rw [show mL 204 = 2 by decide +kernel]; exact (show 2 ≤ 2 by decide)) rfl (by simp) (wpN_runs oX7_trace 60 0 _ _ _ _ h)
abbrev nX7_count : Nat := 205
def kX7_count_0 : List Instr := [.iconst 0, .istore 2, .iload 1, .lookupswitch 125 #[(0, 48), (1, 81), (2, 88), (3, 95), (4, 102), (5, 110), (6, 115), (7, 120)]]
def kX7_count_48 : List Instr := [.iconst 0, .istore 3, .ret 50]
def kX7_count_50 : List Instr := [.ret 50]
def kX7_count_70 : List Instr := [.iconst 0, .iadd, .istore 2, .iinc 3 1, .goto 50]
def kX7_count_71 : List Instr := [.iadd, .istore 2, .iinc 3 1, .goto 50]
def kX7_count_79 : List Instr := [.iload 2, .ireturn]
def kX7_count_81 : List Instr := [.aload 0, .getstatic 230, .iconst 0, .iaload, .ireturn]
def kX7_count_88 : List Instr := [.aload 0, .getstatic 230, .iconst 1, .iaload, .ireturn]
def kX7_count_95 : List Instr := [.aload 0, .getstatic 230, .iconst 4, .iaload, .ireturn]
def kX7_count_102 : List Instr := [.aload 0, .getstatic 230, .multianewarray 151 1, .ireturn]
def kX7_count_110 : List Instr := [.aload 0, .invokeinterface 182 113, .ireturn]
def kX7_count_115 : List Instr := [.aload 0, .getfield 233, .ireturn]
def kX7_count_120 : List Instr := [.aload 0, .getfield 238, .ireturn]
def kX7_count_125 : List Instr := [.iconst (-1000001), .ireturn]
def hX7_count_50 : List Instr := [.iload 3, .iconst 8, .if_icmp .ge 79, .iload 2, .aload 0, .getstatic 224, .iload 3, .iaload, .ifCond .lt 70, .iconst 1, .goto 71]
def tX7_count : Bt := [(0, kX7_count_0), (48, kX7_count_48), (50, kX7_count_50), (70, kX7_count_70), (71, kX7_count_71), (79, kX7_count_79), (81, kX7_count_81), (88, kX7_count_88), (95, kX7_count_95), (102, kX7_count_102), (110, kX7_count_110), (115, kX7_count_115), (120, kX7_count_120), (125, kX7_count_125)]
theorem tX7_count_0 : tb tX7_count 0 = kX7_count_0 := rfl
theorem tX7_count_48 : tb tX7_count 48 = kX7_count_48 := rfl
theorem tX7_count_50 : tb tX7_count 50 = kX7_count_50 := rfl
theorem tX7_count_70 : tb tX7_count 70 = kX7_count_70 := rfl
theorem tX7_count_71 : tb tX7_count 71 = kX7_count_71 := rfl
theorem tX7_count_79 : tb tX7_count 79 = kX7_count_79 := rfl
theorem tX7_count_81 : tb tX7_count 81 = kX7_count_81 := rfl
theorem tX7_count_88 : tb tX7_count 88 = kX7_count_88 := rfl
theorem tX7_count_95 : tb tX7_count 95 = kX7_count_95 := rfl
theorem tX7_count_102 : tb tX7_count 102 = kX7_count_102 := rfl
theorem tX7_count_110 : tb tX7_count 110 = kX7_count_110 := rfl
theorem tX7_count_115 : tb tX7_count 115 = kX7_count_115 := rfl
theorem tX7_count_120 : tb tX7_count 120 = kX7_count_120 := rfl
theorem tX7_count_125 : tb tX7_count 125 = kX7_count_125 := rfl
theorem oX7_count : okT 205 tX7_count = true := by decide +kernel
theorem oX7_count_50 : okB 205 50 hX7_count_50 = true := by decide +kernel
theorem eX7_count {d : Nat} {Q : Qt} {M : Mm} {L : Ml} (a0 : Nat) (a1 : Int32) (h : wpN 205 d tX7_count Q 60 0 [some (.ref a0), some (.int a1), none, none] [] M L) : Good d 205 [.ref a0, .int a1] M L Q :=
  good_of (x := [none, none]) (mF_pn 205 (by decide)) (mF_cn 205 (by decide)) rfl (by rw [show mL 205 = 4 by decide +kernel]; exact (show 2 ≤ 4 by decide)) rfl (by simp) (wpN_runs oX7_count 60 0 _ _ _ _ h)
abbrev nX7_status : Nat := 206
def kX7_status_0 : List Instr := [.aload 0, .getfield 227, .ireturn]
def tX7_status : Bt := [(0, kX7_status_0)]
theorem tX7_status_0 : tb tX7_status 0 = kX7_status_0 := rfl
theorem oX7_status : okT 206 tX7_status = true := by decide +kernel
theorem eX7_status {d : Nat} {Q : Qt} {M : Mm} {L : Ml} (a0 : Nat) (h : wpN 206 d tX7_status Q 60 0 [some (.ref a0)] [] M L) : Good d 206 [.ref a0] M L Q :=
  good_of (x := []) (mF_pn 206 (by decide)) (mF_cn 206 (by decide)) rfl (by rw [show mL 206 = 1 by decide +kernel]; exact (show 1 ≤ 1 by decide)) rfl (by simp) (wpN_runs oX7_status 60 0 _ _ _ _ h)
abbrev nJ6_bitCount_0f7a4 : Nat := 207
def kJ6_bitCount_0f7a4_0 : List Instr := [.iload 0, .iload 0, .iconst 1, .iushr, .iconst 1431655765, .iand, .isub, .istore 0, .iload 0, .iconst 858993459, .iand, .iload 0, .iconst 2, .iushr, .iconst 858993459, .iand, .iadd, .istore 0, .iload 0, .iload 0, .iconst 4, .iushr, .iadd, .iconst 252645135, .iand, .istore 0, .iload 0, .iload 0, .iconst 8, .iushr, .iadd, .istore 0, .iload 0, .iload 0, .iconst 16, .iushr, .iadd, .istore 0, .iload 0, .iconst 63, .iand, .ireturn]
def tJ6_bitCount_0f7a4 : Bt := [(0, kJ6_bitCount_0f7a4_0)]
theorem tJ6_bitCount_0f7a4_0 : tb tJ6_bitCount_0f7a4 0 = kJ6_bitCount_0f7a4_0 := rfl
theorem oJ6_bitCount_0f7a4 : okT 207 tJ6_bitCount_0f7a4 = true := by decide +kernel
theorem eJ6_bitCount_0f7a4 {d : Nat} {Q : Qt} {M : Mm} {L : Ml} (a0 : Int32) (h : wpN 207 d tJ6_bitCount_0f7a4 Q 60 0 [some (.int a0)] [] M L) : Good d 207 [.int a0] M L Q :=
  good_of (x := []) (mF_pn 207 (by decide)) (mF_cn 207 (by decide)) rfl (by rw [show mL 207 = 1 by decide +kernel]; exact (show 1 ≤ 1 by decide)) rfl (by simp) (wpN_runs oJ6_bitCount_0f7a4 60 0 _ _ _ _ h)
