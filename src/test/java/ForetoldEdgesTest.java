/** Promises 17 to 26, and part 3 of the terms as to them: each sentence that names an edge. */
public final class ForetoldEdgesTest {
    /** 0 winks at 1 by the first tick, 2 sees it and tells; 1 is dead behind two. */
    private static final String QUICK = "tell w0,1;s1,1;s0,1;s0,1; = 3\n";
    /** The rover 0 winks at 2, then at 3, and is found out by 1; behind three ticks 2 fades yet, 3 is dead. */
    private static final String BUSY = """
        tell w0,2;r0,9;s0,1;s0,3;s0,1;d0,5; = 5
        image 0 / ticks 3 = 8 / image 1 / turnHead 4 2 = 0 / ask 1 0 / type x / circle = F0 / type w0
        row 0 0 3 / set 0 0 2 / set 5 0 0 = NULL
        """;
    /** The murderer 0 roves over starers at it: 2, 3 and 1 fade by ticks 1, 2 and 3. */
    private static final String ROUND = "tell w0,9;r0,9;s0,1;s0,2;s0,3; = 4\n";
    /** 0 fades by tick 63, when it meets 5, and is dead behind 71; 3 is dead behind 24; never found out. */
    private static final String LATE = "tell w5,2;d2,8;h0,6;d0,9;d0,7;s4,9;r0,9;b6,8;s4,6; = 8\n";
    /** Found out by tick 65. */
    private static final String LATE_OUT = "tell w7,5;b6,7;b1,8;r4,9;r6,7;r4,6;d7,9;h7,7;d0,7; = 8\n";
    private static final String NO_CIRCLE = "row 0 0 1 / type w\n";

    private static final Runs runs = new Runs("ForetoldEdgesTest");

    public static void main(String[] args) {
        ahead();
        aheadRefused();
        toll();
        tollRefused();
        when();
        whenRefused();
        out();
        meet();
        meetRefused();
        bestRole();
        bestRoleRefused();
        glance();
        glanceRefused();
        pass();
        passRefused();
        sets();
        setsRefused();
        share();
        shareRefused();
        nothingChanges();
        runs.cover(17, 26);
        runs.end();
    }

    private static void ahead() {
        runs.holds(17, "AHEAD by n TICKS (0 to 60) of a PLAYER", LATE + """
            ahead 0 60 0 = 0 / ticks 2 / ahead 0 60 0 = 0 / ahead 0 61 0 = BAD / ahead 0 0 0 = 0 / ahead 0 -1 0 = BAD
            ticks 1 / ahead 0 59 0 = 0 / ahead 0 60 0 = 1 / ticks 7 / ahead 0 60 0 = 1
            ticks 1 / ahead 0 59 0 = 1 / ahead 0 60 0 = 2 / ahead 0 59 1 = NONE / ahead 0 58 1 = 5
            ticks 24 / ticks 24 / ahead 0 12 0 = 2 / ahead 0 11 0 = 1 / ahead 0 3 0 = 0 / ahead 0 4 0 = 1
            """);
        runs.holds(17, "how (what = 0), the SEAT (1; NONE), what it SAW (2)", ROUND + """
            ahead 2 0 0 = 0 / ahead 2 1 0 = 1 / ahead 2 2 0 = 1 / ahead 2 3 0 = 2 / ahead 2 4 0 = 2
            ahead 2 0 1 = 0 / ahead 2 2 1 = 0 / ahead 2 3 1 = NONE / ahead 0 0 1 = 1 / ahead 0 1 1 = 2 / ahead 0 3 1 = 1
            ahead 2 0 2 = 0 / ahead 2 1 2 = 0 / ahead 2 2 2 = 1 / ahead 2 3 2 = 2 / ahead 2 60 2 = 2 / ahead 1 60 2 = 2
            """);
        // Foretelling is not held by TICK's end.
        runs.holds(17, "FORETOLD (nothing changes)", "tell w0,9;s1,1;s2,1;d0,1; = 3\n41 * ticks 24\nticks 15 / count 3 = 999\n"
            + "ahead 2 1 1 = NONE / ahead 2 2 1 = 0 / ahead 2 60 1 = 0 / ahead 2 59 1 = NONE / ticks 1 = FULL");
    }

    private static void aheadRefused() {
        runs.refused(17, "what it SAW (2). BAD.", BUSY, """
            ahead -1 0 0 = BAD / ahead 5 0 0 = BAD / ahead min 0 0 = BAD / ahead max 0 0 = BAD
            ahead 0 -1 0 = BAD / ahead 0 61 0 = BAD / ahead 0 min 0 = BAD / ahead 0 max 0 = BAD
            ahead 0 0 -1 = BAD / ahead 0 0 3 = BAD / ahead 0 0 min = BAD / ahead 0 0 max = BAD
            """);
        runs.refused(17, "there is no such thing", NO_CIRCLE, "ahead 0 0 0 = BAD / ahead 0 61 3 = BAD");
    }

    private static void toll() {
        runs.holds(18, "TOLL behind n TICKS (0 to 60): who is DEAD (bits)", LATE + """
            toll 0 0 = 0 / toll 12 0 = 0 / toll 13 0 = 16 / toll 60 0 = 30 / toll 61 0 = BAD / toll -1 0 = BAD
            ticks 10 / toll 60 0 = 30 / ticks 1 / toll 59 0 = 30 / toll 60 0 = 31 / toll 0 0 = 0 / ticks 2 / toll 0 0 = 16
            """);
        runs.holds(18, "whether it is FOUND OUT (1, 0)", LATE_OUT + """
            ticks 4 / toll 60 1 = 0 / ticks 1 / toll 60 1 = 1 / toll 59 1 = 0 / toll 0 1 = 0
            ticks 24 / ticks 24 / ticks 11 / toll 0 1 = 0 / toll 1 1 = 1 / ticks 1 / toll 0 1 = 1 / toll 60 1 = 1
            """);
        runs.holds(18, "who is DEAD (bits)", "tell w7,9;s7,1;s7,1;s7,1;s7,1;s7,1;s7,1;s7,1;r6,1; = 8 / toll 9 0 = 127 / toll 60 0 = 127");
    }

    private static void tollRefused() {
        runs.refused(18, "TOLL: DEAD (what = 0), FOUND OUT (1). BAD", BUSY, """
            toll -1 0 = BAD / toll 61 0 = BAD / toll min 0 = BAD / toll max 1 = BAD
            toll 0 -1 = BAD / toll 0 2 = BAD / toll 60 min = BAD / toll 60 max = BAD
            """);
        runs.refused(18, "FOUND OUT (1). BAD; STATE: no CIRCLE (ahead of BAD).", NO_CIRCLE,
            "toll 0 0 = STATE / toll 61 0 = STATE / toll -1 0 = STATE / toll 0 2 = STATE");
    }

    private static void when() {
        runs.holds(19, "WHEN a PLAYER is not living (FADES or DEAD), DEAD: behind how many TICKS (0 to 60) first; NONE.", LATE + """
            when 0 1 = NONE / ticks 2 / when 0 1 = NONE / ticks 1 / when 0 1 = 60 / when 0 2 = NONE
            ticks 7 / when 0 1 = 53 / when 0 2 = NONE / ticks 1 / when 0 2 = 60 / ticks 24 / ticks 24 / ticks 3
            when 0 1 = 1 / when 0 2 = 9 / ticks 1 / when 0 1 = 0 / when 0 2 = 8 / ticks 7 / when 0 1 = 0 / when 0 2 = 1
            ticks 1 / when 0 1 = 0 / when 0 2 = 0 / when 5 1 = NONE / when 5 2 = NONE
            """);
        runs.holds(19, "WHEN it is not living (how = 1), DEAD (2); NONE.", QUICK + """
            when 1 1 = 1 / when 1 2 = 2 / when 0 1 = NONE / when 2 2 = NONE / when 0 0 = BAD / when 0 3 = BAD
            """);
    }

    private static void whenRefused() {
        runs.refused(19, "DEAD (2); NONE. BAD.", BUSY, """
            when -1 1 = BAD / when 5 1 = BAD / when min 1 = BAD / when max 2 = BAD
            when 0 0 = BAD / when 0 3 = BAD / when 0 min = BAD / when 0 max = BAD
            """);
        runs.refused(19, "there is no such thing", NO_CIRCLE, "when 0 1 = BAD / when 0 0 = BAD");
    }

    private static void out() {
        runs.holds(20, "OUT: behind how many TICKS (0 to 60) it is FOUND OUT first; NONE.", LATE_OUT + """
            out = NONE / ticks 4 / out = NONE / ticks 1 / out = 60 / ticks 24 / ticks 24 / ticks 11 / out = 1
            ticks 1 / out = 0 / stand 3 = 1 / ticks 1 / out = 0 / role 0 / stand 3 = 0 / undo / out = 0
            """);
        runs.refused(20, "OUT; NONE. STATE: no CIRCLE.", NO_CIRCLE, "out = STATE");
    }

    private static void meet() {
        runs.holds(21, "MEET of two PLAYERS: behind how many TICKS (0 to 60) each LOOKS at the other's SEAT first; NONE.", LATE + """
            meet 0 5 = NONE / ticks 2 / meet 0 5 = NONE / ticks 1 / meet 0 5 = 60 / meet 5 0 = 60
            ticks 24 / ticks 24 / ticks 11 / meet 0 5 = 1 / ticks 1 / meet 0 5 = 0 / meet 5 0 = 0
            """);
        runs.holds(21, "each LOOKS at the other's SEAT first", """
            tell w2,9;s1,1;s0,1;s0,1; = 3 / meet 0 1 = 0 / meet 1 0 = 0 / meet 0 2 = NONE / meet 2 0 = NONE / meet 1 2 = NONE
            turnHead 0 2 = 1 / meet 0 1 = NONE / meet 0 2 = 0 / ticks 1 / ticks 1 = 1 / meet 0 2 = NONE
            """);
    }

    private static void meetRefused() {
        runs.refused(21, "BAD: the same, too.", BUSY, """
            meet 0 0 = BAD / meet 4 4 = BAD / meet -1 0 = BAD / meet 0 -1 = BAD / meet 5 0 = BAD / meet 0 5 = BAD
            meet min 0 = BAD / meet 0 min = BAD / meet max 0 = BAD / meet 0 max = BAD / meet 5 5 = BAD
            """);
        runs.refused(21, "there is no such thing", NO_CIRCLE, "meet 0 1 = BAD / meet 0 0 = BAD");
    }

    private static void bestRole() {
        String circle = "tell w7,1;d0,7;d6,8;r2,1;d4,1;d5,2;b7,4;d2,4;h2,7; = 8\n";
        runs.holds(22, "ROLE for n TICKS (1 to 40)", circle + """
            bestRole 39 0 = 1 / bestRole 39 1 = 1 / bestRole 40 0 = 2 / bestRole 40 1 = 2 / bestRole 41 0 = BAD
            bestRole 1 0 = 0 / bestRole 1 1 = 0 / bestRole 0 0 = BAD
            role 2 = 7 / ticks 20 / ticks 19 / count 4 = 1 / ticks 1 / count 4 = 2
            """);
        runs.holds(22, "leaves most DEAD behind them, of several the first: who; how many.", """
            tell w2,9;s1,1;s0,1;s0,1; = 3 / bestRole 1 0 = 0 / bestRole 1 1 = 0 / bestRole 2 0 = 0 / bestRole 2 1 = 1
            tell w0,9;s2,1;s2,1;s1,1; = 3 / bestRole 2 0 = 1 / bestRole 2 1 = 1
            tell w0,9;s1,1;s2,1;r1,1; = 3 / bestRole 4 0 = 1 / bestRole 4 1 = 1
            tell w0,9;s7,1;s7,1;s7,1;s7,1;s7,1;s7,1;s7,1;r6,1; = 8 / bestRole 40 0 = 7 / bestRole 40 1 = 7
            """);
        runs.holds(22, "leaves most DEAD behind them", """
            tell w0,9;s1,1;s0,1;s0,1; = 3 / ticks 2 = 2 / bestRole 1 1 = 1 / bestRole 1 0 = 0 / bestRole 40 1 = 1
            """);
    }

    private static void bestRoleRefused() {
        runs.refused(22, "ROLE: who (what = 0), how many (1). BAD", BUSY, """
            bestRole 0 0 = BAD / bestRole 41 0 = BAD / bestRole -1 0 = BAD / bestRole min 0 = BAD / bestRole max 1 = BAD
            bestRole 1 -1 = BAD / bestRole 1 2 = BAD / bestRole 40 min = BAD / bestRole 40 max = BAD
            """);
        runs.refused(22, "how many (1). BAD; STATE: no CIRCLE (ahead of BAD).", NO_CIRCLE,
            "bestRole 1 0 = STATE / bestRole 0 0 = STATE / bestRole 41 0 = STATE / bestRole 1 2 = STATE");
    }

    private static void glance() {
        String circle = "tell w1,1;s0,8;b6,7;h0,7;h3,5;h3,4;h5,6;h5,4; = 7\n";
        runs.holds(23, "GLANCE for n TICKS (1 to 40)", circle + """
            glance 39 0 = 0 / glance 39 1 = 4 / glance 40 0 = 2 / glance 40 1 = 5 / glance 41 0 = BAD
            glance 1 0 = 0 / glance 1 1 = 0 / glance 0 0 = BAD
            turnHead 1 2 = 6 / ticks 20 / ticks 19 / count 4 = 4 / ticks 1 / count 4 = 5
            """);
        runs.holds(23, "the SEAT at which the MURDERER should look now, by which most are DEAD behind them, of several the least", """
            tell w0,9;s1,1;s2,1;s3,1;s0,1;s0,1; = 5
            glance 1 0 = 1 / glance 1 1 = 0 / glance 2 0 = 3 / glance 2 1 = 1 / glance 40 0 = 3 / glance 40 1 = 1
            tell w1,9;s1,1;s2,1;s3,1;s1,1; = 4 / glance 2 0 = 0 / glance 2 1 = 1 / turnHead 0 3 / glance 2 0 = 3
            tell w0,9;s1,1;s0,1;s1,1; = 3 / glance 2 0 = 1 / ticks 2 = 2 / glance 1 0 = 1 / glance 1 1 = 1
            """);
        runs.holds(23, "which; how many; NONE: it is DEAD.", """
            tell w0,9;s1,1;s0,9;s0,1; = 3 / ticks 1 / role 1 = 0 / glance 1 0 = 0 / glance 1 1 = 0
            tell w0,9;s1,1;s0,1;s0,1; = 3 / ticks 1 / role 1 = 0 / glance 1 0 = 0 / glance 1 1 = 1
            ticks 1 = 2 / glance 1 0 = NONE / glance 1 1 = NONE / glance 40 0 = NONE / glance 0 0 = BAD / glance 41 1 = BAD
            glance 1 2 = BAD / rise 1 = 0 / glance 1 0 = 0
            """);
    }

    private static void glanceRefused() {
        runs.refused(23, "GLANCE: which (what = 0), how many (1); NONE. BAD", BUSY, """
            glance 0 0 = BAD / glance 41 0 = BAD / glance -1 0 = BAD / glance min 0 = BAD / glance max 1 = BAD
            glance 1 -1 = BAD / glance 1 2 = BAD / glance 40 min = BAD / glance 40 max = BAD
            """);
        runs.refused(23, "NONE. BAD; STATE: no CIRCLE (ahead of BAD).", NO_CIRCLE,
            "glance 1 0 = STATE / glance 0 0 = STATE / glance 41 0 = STATE / glance 1 2 = STATE");
    }

    private static void pass() {
        runs.holds(24, "PASS for n TICKS (1 to 40)", LATE_OUT + """
            ticks 24 / pass 40 = 5 / ticks 1 / pass 39 = 5 / pass 40 = 6 / pass 41 = BAD / pass 1 = 1 / pass 0 = BAD
            """);
        String again = "rise 1 / turnHead 1 0 / ticks 2 = 2\n";
        runs.holds(24, "the least PROOF (1 to 9) by which it is not FOUND OUT behind them; NONE.", """
            tell w0,9;s1,1;s2,1;s1,1; = 3 / pass 40 = 1
            tell w0,9;s1,1;s0,1;s0,1; = 3 / pass 1 = 2 / pass 40 = 2 / stand 2 = 9 / ticks 2 = 2 / pass 40 = 1
            """ + again.repeat(6) + """
            player 2 4 = 7 / rise 1 / turnHead 1 0 / pass 1 = 9 / pass 40 = 9 / ticks 2 = 2 / player 2 4 = 8 / pass 40 = 1
            rise 1 / turnHead 1 0 / pass 1 = NONE / pass 40 = NONE / ticks 1 / stand 3 = 1 / pass 1 = NONE
            """);
        runs.holds(24, "by which it is not FOUND OUT behind them; NONE", QUICK + "pass 1 = 2 / ticks 1 / stand 3 = 1 / pass 1 = NONE / pass 40 = NONE");
    }

    private static void passRefused() {
        runs.refused(24, "PASS; NONE. BAD", BUSY, "pass 0 = BAD / pass 41 = BAD / pass -1 = BAD / pass min = BAD / pass max = BAD");
        runs.refused(24, "PASS; NONE. BAD; STATE: no CIRCLE (ahead of BAD).", NO_CIRCLE, "pass 1 = STATE / pass 0 = STATE / pass 41 = STATE");
    }

    private static void sets() {
        runs.holds(25, "SETS of v (0 to 99): sets of PLAYERS that are not DEAD who SAW v winks together: how many", ROUND + """
            sets 0 0 = 16 / sets 1 0 = 0 / sets 99 0 = 0 / sets 100 0 = BAD / sets -1 0 = BAD
            ticks 2 / sets 0 0 = 2 / sets 1 0 = 4 / sets 2 0 = 4 / sets 3 0 = 4 / sets 4 0 = 2 / sets 5 0 = 0
            """);
        runs.holds(25, "PLAYERS that are not DEAD who SAW v winks together", ROUND + """
            ticks 3 = 4 / player 1 4 = 2 / player 2 4 = 2 / player 3 4 = 2
            sets 2 0 = 4 / sets 2 2 = 11 / sets 4 0 = 2 / sets 4 1 = 10 / sets 6 0 = 0 / sets 0 0 = 2 / sets 0 2 = 1
            """);
        runs.holds(25, "PLAYERS (bits) that are in all of these (none: 0); in any.", ROUND + """
            sets 0 1 = 0 / sets 0 2 = 15 / sets 1 1 = 0 / sets 1 2 = 0 / ticks 2
            sets 3 1 = 2 / sets 3 2 = 15 / sets 4 1 = 14 / sets 4 2 = 15 / sets 5 1 = 0 / sets 5 2 = 0 / sets 99 1 = 0 / sets 99 2 = 0
            """);
        runs.holds(25, "in all of these (none: 0); in any", """
            tell w2,9;s2,1;s2,1;s1,1; = 3 / ticks 1 / player 0 4 = 1 / sets 1 0 = 4 / sets 1 1 = 1 / sets 1 2 = 7 / sets 0 0 = 4 / sets 0 2 = 6
            tell w1,9;s1,1;s0,1;s1,1; = 3 / ticks 2 = 1 / sets 1 0 = 2 / sets 1 1 = 4 / sets 1 2 = 6 / sets 0 1 = 0 / sets 0 2 = 2
            """);
        runs.holds(25, "sets of PLAYERS", "tell w7,9;s7,1;s7,1;s7,1;s7,1;s7,1;s7,1;s7,1;s0,1; = 8\n"
            + "sets 0 0 = 256 / sets 0 2 = 255 / ticks 1 / sets 0 0 = 4 / sets 1 0 = 24 / sets 3 0 = 80 / sets 6 0 = 4 / sets 6 1 = 126 / sets 6 2 = 255");
    }

    private static void setsRefused() {
        runs.refused(25, "SETS: how many (what = 0), in all (1), in any (2). BAD", BUSY, """
            sets -1 0 = BAD / sets 100 0 = BAD / sets min 0 = BAD / sets max 2 = BAD
            sets 0 -1 = BAD / sets 0 3 = BAD / sets 99 min = BAD / sets 99 max = BAD
            """);
        runs.refused(25, "in any (2). BAD; STATE: no CIRCLE (ahead of BAD).", NO_CIRCLE,
            "sets 0 0 = STATE / sets -1 0 = STATE / sets 100 0 = STATE / sets 0 3 = STATE");
    }

    private static void share() {
        runs.holds(26, "SHARE of n (0 to 999)", ROUND + """
            ticks 2 / share 1 0 = 0 / share 2 0 = 0 / share 1 999 = 500 / share 2 999 = 250 / share 3 999 = 249 / share 0 999 = 0
            share 1 1000 = BAD / share 1 -1 = BAD
            """);
        runs.holds(26, "each PLAYER gets as many as n times what it SAW by what all SAW (cut), what is over 1 each to the first ones "
            + "that SAW any", ROUND + """
            ticks 2 / player 1 4 = 2 / player 2 4 = 1 / player 3 4 = 1
            share 1 1 = 1 / share 2 1 = 0 / share 3 1 = 0
            share 1 2 = 2 / share 2 2 = 0 / share 3 2 = 0
            share 1 3 = 2 / share 2 3 = 1 / share 3 3 = 0
            share 1 4 = 2 / share 2 4 = 1 / share 3 4 = 1
            share 1 7 = 4 / share 2 7 = 2 / share 3 7 = 1 / share 0 7 = 0
            """);
        runs.holds(26, "the first ones that SAW any", """
            tell w2,9;s2,1;s2,1;s1,1;s2,1;s2,1; = 5 / ticks 1 / count 5 = 3
            share 0 5 = 2 / share 1 5 = 0 / share 2 5 = 0 / share 3 5 = 2 / share 4 5 = 1
            share 0 4 = 2 / share 3 4 = 1 / share 4 4 = 1 / share 0 2 = 1 / share 3 2 = 1 / share 4 2 = 0
            """);
        runs.holds(26, "n times what it SAW by what all SAW (cut)", QUICK + """
            ticks 1 / count 5 = 1 / share 2 9 = 9 / share 2 999 = 999 / share 2 1 = 1 / share 1 999 = 0
            tell w7,9;s7,1;s7,1;s7,1;s7,1;s7,1;s7,1;s7,1;s0,1; = 8 / ticks 1 / count 5 = 6 / share 1 999 = 167 / share 3 999 = 167
            share 4 999 = 166 / share 6 999 = 166 / share 0 999 = 0 / share 7 999 = 0 / share 6 5 = 0 / share 5 5 = 1
            """);
        runs.holds(26, "by what all SAW", ROUND + "ticks 3 = 4 / share 1 999 = 333 / share 2 999 = 333 / share 2 6 = 2");
        runs.holds(26, "(0, if none did)", ROUND + "share 0 999 = 0 / share 1 999 = 0 / share 3 1 = 0 / ticks 2 / role 1 / share 1 999 = 0");
    }

    private static void shareRefused() {
        runs.refused(26, "SHARE. BAD.", BUSY, """
            share -1 0 = BAD / share 5 0 = BAD / share min 0 = BAD / share max 999 = BAD
            share 0 -1 = BAD / share 0 1000 = BAD / share 1 min = BAD / share 1 max = BAD
            """);
        runs.refused(26, "there is no such thing", NO_CIRCLE, "share 0 0 = BAD / share 0 1000 = BAD");
    }

    private static void nothingChanges() {
        runs.leavesAll(17, "FORETOLD (nothing changes).", BUSY, "ahead 0 60 0 = 0 / ahead 0 0 1 = 4 / ahead 2 1 0 = 2 / ahead 1 60 2 = 2");
        runs.leavesAll(18, "FORETOLD (nothing changes).", BUSY, "toll 60 0 = 12 / toll 0 1 = 1 / toll 60 1 = 1");
        runs.leavesAll(19, "FORETOLD (nothing changes).", BUSY, "when 0 2 = NONE / when 2 2 = 1 / when 3 1 = 0");
        runs.leavesAll(20, "FORETOLD (nothing changes).", BUSY, "out = 0");
        runs.leavesAll(21, "FORETOLD (nothing changes).", BUSY, "meet 0 1 = 1 / meet 2 3 = NONE / meet 0 2 = NONE");
        runs.leavesAll(22, "FORETOLD (nothing changes).", BUSY, "bestRole 40 0 / bestRole 40 1 / bestRole 1 0 = 0 / bestRole 1 1 = 2");
        runs.leavesAll(23, "FORETOLD (nothing changes).", BUSY, "glance 40 0 = 1 / glance 40 1 = 2");
        runs.leavesAll(24, "FORETOLD (nothing changes).", BUSY, "pass 40 = NONE");
        runs.leavesAll(24, "FORETOLD (nothing changes).", ROUND, "pass 40 = 3");
        runs.leavesAll(25, "FORETOLD (nothing changes).", BUSY, "sets 1 0 = 4 / sets 3 2 = 23");
        runs.leavesAll(26, "FORETOLD (nothing changes).", BUSY, "share 1 9 = 4 / share 3 999 = 200");
    }
}
