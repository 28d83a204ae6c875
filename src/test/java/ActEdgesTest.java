/** Promises 10 to 16, 31, 32 and 37, and part 2 of the terms: each sentence that names an edge. */
public final class ActEdgesTest {
    /** 0 winks at 1 by the first tick, 2 sees it; 1 is dead behind two. */
    private static final String QUICK = "tell w0,1;s1,1;s0,1;s0,1; = 3\n";
    /** The rover 0 winks at 2, then at 3, and is found out by 1; behind three ticks 2 fades yet, 3 is dead. */
    private static final String BUSY = """
        tell w0,2;r0,9;s0,1;s0,3;s0,1;d0,5; = 5
        image 0 / ticks 3 = 8 / image 1 / turnHead 4 2 = 0 / ask 1 0 / type x / circle = F0 / type w0
        row 0 0 3 / set 0 0 2 / set 5 0 0 = NULL
        """;
    /** TICK 984, all kept acts ticks. */
    private static final String LATE = "tell w0,9;s1,1;s0,1;s1,1; = 3\n41 * ticks 24 = 2\ncount 3 = 984\n";

    private static final Runs runs = new Runs("ActEdgesTest");

    public static void main(String[] args) {
        rovers();
        roversBack();
        starers();
        shyOnes();
        dozers();
        theDead();
        allAtOnce();
        winks();
        fades();
        sees();
        tells();
        orderOfATick();
        ticks();
        ticksRefused();
        turnHead();
        turnHeadRefused();
        role();
        proof();
        rise();
        player();
        stand();
        image();
        restore();
        count();
        runs.cover(10, 16);
        runs.cover(31, 32);
        runs.cover(37, 37);
        runs.end();
    }

    private static void rovers() {
        runs.holds(10, "a rover at the next SEAT above the one at which it LOOKS (0 above the last), one more, if that is "
            + "its own", """
            tell w2,9;r2,1;s0,1;s1,1; = 3
            player 0 1 = 2 / ticks 1 / player 0 1 = 1 / ticks 1 / player 0 1 = 2 / ticks 1 / player 0 1 = 1
            tell w0,9;s1,1;s2,1;r1,1; = 3
            player 2 1 = 1 / ticks 1 / player 2 1 = 0 / ticks 1 / player 2 1 = 1 / ticks 1 / player 2 1 = 0
            tell w3,9;s1,1;r3,1;s0,1;s0,1; = 4
            player 1 1 = 3 / ticks 1 / player 1 1 = 0 / ticks 1 / player 1 1 = 2 / ticks 1 / player 1 1 = 3
            """);
        runs.holds(10, "(A rover, one that roves back that looks at none looks at the next SEAT above its own, below it.)", """
            tell w0,9;s1,1;d0,1;s1,1;s1,1; = 4 / ticks 2 = 0 / player 1 1 = NONE
            row 0 0 4 / set 0 1 1 / who 1 1 0 0 2 = 8
            set 0 1 0 / set 0 3 1 / who 1 1 0 0 4 = 2
            """);
    }

    private static void roversBack() {
        runs.holds(10, "one that roves back as a rover, but below", """
            tell w3,9;b1,1;s2,1;s1,1;s2,1; = 4
            player 0 1 = 1 / ticks 1 / player 0 1 = 3 / ticks 1 / player 0 1 = 2 / ticks 1 / player 0 1 = 1
            tell w0,9;s1,1;s2,1;s1,1;b0,1; = 4
            player 3 1 = 0 / ticks 1 / player 3 1 = 2 / ticks 1 / player 3 1 = 1 / ticks 1 / player 3 1 = 0
            tell w0,9;s3,1;b0,1;s1,1;s2,1; = 4
            player 1 1 = 0 / ticks 1 / player 1 1 = 3 / ticks 1 / player 1 1 = 2 / ticks 1 / player 1 1 = 0
            """);
    }

    private static void starers() {
        runs.holds(10, "a starer where it did", """
            tell w0,9;s2,1;s0,1;s0,1; = 3 / ticks 1 / player 0 1 = 2 / player 1 1 = 0
            turnHead 1 2 = 0 / ticks 1 / player 1 1 = 2 / ticks 3 = 4 / player 1 1 = 2 / player 0 1 = 2
            """);
    }

    private static void shyOnes() {
        runs.holds(10, "a shy one at the next SEAT above its own, round, on which one is who is not DEAD", """
            tell w1,9;s1,1;s0,1;s1,1;h1,1;h2,1; = 5
            ticks 1 = 0 / player 3 1 = 4 / player 4 1 = 0 / ticks 1 = 1 / player 4 1 = 0
            ticks 1 = 1 / player 4 1 = 1 / player 3 1 = 4
            rise 0 = 0 / ticks 1 / player 4 1 = 0 / turnHead 3 1 = 4 / player 3 1 = 1 / ticks 1 / player 3 1 = 4
            """);
        runs.holds(10, "(none, if there is none)", """
            tell w0,9;s1,1;s0,1;h0,1; = 3 / ticks 2 = 2 / turnHead 0 2 = 1 / role 2 = 0
            ticks 1 = 2 / player 2 1 = 0 / ticks 1 = 3 / player 2 1 = 0 / ticks 1 = 3 / player 2 1 = NONE
            ticks 1 / player 2 1 = NONE / rise 1 = 1 / player 2 1 = NONE / ticks 1 / player 2 1 = 1
            """);
    }

    private static void dozers() {
        runs.holds(10, "a dozer so in TICKS that are even, at none in odd ones", """
            tell w0,9;s1,1;s2,1;d1,1; = 3 / player 2 1 = 1
            ticks 1 / player 2 1 = 0 / ticks 1 / player 2 1 = NONE / ticks 1 / player 2 1 = 0 / ticks 1 / player 2 1 = NONE
            undo / player 2 1 = 0 / ahead 2 1 1 = NONE / ahead 2 2 1 = 0
            turnHead 2 1 = 0 / ticks 1 / player 2 1 = NONE / turnHead 2 1 = NONE / player 2 1 = 1 / ticks 1 / player 2 1 = 0
            """);
        runs.holds(10, "(none, if there is none); a dozer so", """
            tell w0,9;s1,1;s0,1;d0,1; = 3 / ticks 2 = 2 / turnHead 0 2 = 1 / role 2 = 0
            ticks 1 = 2 / player 2 1 = 0 / ticks 1 = 3 / player 2 1 = NONE / ticks 1 = 3 / player 2 1 = NONE
            rise 0 = 2 / ticks 1 / player 2 1 = NONE / ticks 1 / player 2 1 = 0
            """);
    }

    private static void theDead() {
        runs.holds(10, "The DEAD look at none.", QUICK + """
            ticks 1 / player 1 1 = 0 / player 0 5 = 6 / ticks 1 = 2 / player 1 1 = NONE / player 0 5 = 4
            ticks 1 / player 1 1 = NONE / player 0 5 = 4
            tell w0,9;s1,1;r2,1;s1,1; = 3 / ticks 2 = 2 / player 1 1 = NONE / ticks 3 / player 1 1 = NONE
            tell w0,9;s1,1;b2,1;s1,1; = 3 / ticks 3 = 2 / player 1 1 = NONE / ticks 3 / player 1 1 = NONE
            tell w1,9;h2,1;s0,1;s1,1; = 3 / ticks 2 = 1 / player 0 1 = NONE / ticks 1 / player 0 1 = NONE
            tell w1,9;d2,1;s0,1;s1,1; = 3 / ticks 2 = 1 / ticks 1 / player 0 1 = NONE
            """);
    }

    private static void allAtOnce() {
        runs.holds(10, "1 each that is not DEAD looks anew, all at once, by who is DEAD as the TICK begins", """
            tell w1,9;s1,1;s0,1;s1,1;h1,1;h2,1; = 5 / ticks 1 = 0 / player 4 1 = 0
            ticks 1 = 1 / player 4 1 = 0 / player 0 5 = 18 / ticks 1 / player 4 1 = 1
            """);
        runs.holds(10, "each that is not DEAD looks anew", """
            tell w0,9;s1,9;r2,5;s1,1; = 3 / ticks 1 / stand 5 = 2 / player 1 1 = 0
            ticks 1 / player 1 1 = 2 / ticks 1 / player 1 1 = 0 / stand 5 = 2
            """);
        // The rovers 0 and 1 meet only by where both look anew.
        runs.holds(10, "all at once", "tell w0,9;r2,1;r2,1;s1,1; = 3 / ticks 1 / player 0 1 = 1 / player 1 1 = 0 / stand 5 = 2");
    }

    private static void winks() {
        runs.holds(10, "if it LOOKS at one that LIVES, who LOOKS at it, that one FADES", """
            tell w0,9;s1,1;s0,1;s1,1; = 3 / ticks 1 / stand 5 = 2 / stand 4 = 5
            tell w0,9;s1,1;s2,1;s0,1; = 3 / ticks 24 = 0 / stand 4 = 7
            tell w0,9;s2,1;s0,1;s1,1; = 3 / ticks 24 = 0 / stand 4 = 7
            tell w0,9;s1,1;s2,1;s1,1; = 3 / ticks 24 = 0 / stand 4 = 7
            """);
        runs.holds(10, "one that LIVES", """
            tell w0,9;s1,3;s0,3;s0,1; = 3 / ticks 1 / player 1 3 = 3 / count 5 = 1
            ticks 1 / player 1 3 = 2 / count 5 = 1 / ticks 1 / player 1 3 = 1 / ticks 1 = 2 / count 5 = 1 / ticks 5 / count 5 = 1
            """);
        runs.holds(10, "2 if it is not FOUND OUT", """
            tell w0,1;r0,9;s0,9;s0,9;s0,9; = 4 / ticks 1 / stand 3 = 1 / stand 5 = 4 / count 5 = 2
            ticks 6 = 0 / stand 5 = 4 / count 5 = 2 / ticks 3 = 4 / stand 3 = 1
            role 1 = 0 / role 0 = 1 / stand 3 = 0 / ticks 1 / stand 5 = 8
            """);
        runs.holds(10, "the MURDERER is not DEAD", """
            tell w0,9;s1,9;s0,1;s1,9; = 3 / ticks 2 = 2 / role 1 = 0 / ticks 3 = 2 / stand 5 = 0 / count 5 = 0
            rise 1 = 0 / player 1 1 = 2 / ticks 1 / stand 5 = 4 / player 0 4 = 1
            """);
        runs.holds(10, "the MURDERER is not DEAD", """
            tell w0,9;s1,9;s0,9;s1,9; = 3 / ticks 1 / role 1 = 0 / turnHead 1 2 = 0 / ticks 1 / stand 5 = 6
            """);
    }

    private static void fades() {
        runs.holds(10, "LEFT is SLOW and 1", """
            tell w0,9;s1,5;s0,1;s1,5; = 3 / ticks 1 = 0 / player 1 3 = 1 / player 1 0 = 1 / ticks 1 = 2 / player 1 3 = 0
            tell w0,9;s1,5;s0,9;s1,5; = 3 / ticks 1 = 0 / player 1 3 = 9 / ticks 8 = 0 / player 1 3 = 1 / ticks 1 = 2
            player 1 3 = 0 / player 1 0 = 2
            """);
        runs.holds(10, "3 each that FADES: LEFT is 1 less; with 0 it is DEAD.", """
            tell w0,9;r0,9;s0,2;s0,1;s0,3; = 4
            ticks 1 = 0 / player 2 3 = 1 / ticks 1 = 4 / player 2 3 = 0 / player 3 3 = 3
            ticks 1 = 4 / player 3 3 = 2 / player 1 3 = 2 / ticks 1 = 4 / player 3 3 = 1 / player 1 3 = 1
            ticks 1 = 14 / player 1 3 = 0 / player 3 3 = 0 / ticks 1 = 14
            """);
        runs.holds(10, "TICK is 1 more.", QUICK + """
            count 3 = 0 / ticks 1 / count 3 = 1 / ticks 24 / count 3 = 25 / turnHead 0 2 / role 2 / proof 3 / rise 1 / count 3 = 25
            """);
    }

    private static void sees() {
        runs.holds(10, "each other PLAYER that is not DEAD, is not the MURDERER, and LOOKS at the MURDERER SAW it once more", """
            tell w0,9;r0,9;s0,1;s0,1;s0,1;s1,1; = 5
            ticks 1 / player 0 4 = 0 / player 1 4 = 1 / player 2 4 = 0 / player 3 4 = 1 / player 4 4 = 0
            ticks 1 = 4 / player 1 4 = 2 / player 2 4 = 1 / player 3 4 = 1 / player 0 4 = 0
            """);
        runs.holds(10, "each other PLAYER that is not DEAD", """
            tell w0,9;r0,9;s0,1;s0,1;s0,1; = 4
            ticks 2 = 4 / player 2 4 = 1 / player 3 4 = 1 / player 1 4 = 2
            ticks 1 = 12 / player 1 0 = 1 / player 2 4 = 1 / player 3 4 = 2 / player 1 4 = 2
            """);
        runs.holds(10, "LOOKS at the MURDERER", """
            tell w7,9;s7,1;s7,1;s7,1;s7,1;s7,1;s7,1;s0,1;s0,1; = 8 / ticks 1 / stand 5 = 1 / count 5 = 5 / player 6 4 = 0
            player 0 4 = 0 / player 1 4 = 1 / player 5 4 = 1 / player 7 4 = 0
            """);
        runs.holds(10, "that one FADES: LEFT is SLOW and 1; each other PLAYER", QUICK + "ticks 1 / player 1 4 = 0 / player 2 4 = 1");
    }

    private static void tells() {
        runs.holds(10, "one that SAW it PROOF times or more tells: it is FOUND OUT.", """
            tell w0,1;s1,1;s0,1;s0,1; = 3 / ticks 1 / stand 3 = 1
            tell w0,2;s1,1;s0,1;s0,1; = 3 / ticks 1 / stand 3 = 0 / player 2 4 = 1
            tell w0,2;r0,1;s0,9;s0,9;s0,9; = 4 / ticks 1 / stand 3 = 0 / ticks 1 / stand 3 = 1 / player 1 4 = 2
            tell w0,3;r0,1;s0,9;s0,9;s0,9; = 4 / ticks 9 / stand 3 = 0 / player 1 4 = 2
            tell w0,1;s1,1;s0,1;s1,1; = 3 / ticks 24 / stand 3 = 0 / count 5 = 0
            """);
        runs.holds(10, "PROOF times or more", """
            tell w0,9;r0,1;s0,9;s0,9;s0,9;s0,9; = 5 / ticks 2 / player 1 4 = 2 / player 4 4 = 2 / stand 3 = 0
            proof 1 = 9 / stand 3 = 0 / ticks 1 / player 1 4 = 3 / stand 3 = 1
            """);
        // Two saw one each: together that is no proof of two.
        runs.holds(10, "one that SAW it PROOF times", "tell w0,2;s1,1;s0,1;s0,1;s0,1; = 4 / ticks 9 / count 5 = 2 / stand 3 = 0");
        runs.holds(10, "SAW it once more (99 at most): one that SAW it PROOF times", """
            tell w0,9;s1,1;s0,1;s0,1; = 3
            ticks 2 = 2 / rise 1 / turnHead 1 0 / ticks 2 = 2 / rise 1 / turnHead 1 0 / ticks 2 = 2 / rise 1 / turnHead 1 0
            ticks 2 = 2 / rise 1 / turnHead 1 0 / ticks 2 = 2 / rise 1 / turnHead 1 0 / ticks 2 = 2 / rise 1 / turnHead 1 0
            ticks 2 = 2 / rise 1 / turnHead 1 0 / ticks 2 = 2 / rise 1 / turnHead 1 0 / player 2 4 = 8 / stand 3 = 0
            ticks 1 / player 2 4 = 9 / stand 3 = 1 / ticks 1 = 2 / rise 1 / turnHead 1 0 / ticks 9 = 0 / player 2 4 = 9
            """);
    }

    private static void orderOfATick() {
        runs.holds(10, "2 if it is not FOUND OUT and the MURDERER is not DEAD", """
            tell w0,9;s1,9;s0,1;s1,9; = 3 / ticks 1 / player 1 3 = 1 / role 1 = 0 / turnHead 1 2 = 0
            ticks 1 = 2 / stand 5 = 4 / player 2 3 = 9
            """);
        runs.holds(10, "3 each that FADES: LEFT is 1 less", """
            tell w0,9;r0,9;s0,1;s0,1;s0,1; = 4 / ticks 1 / player 2 3 = 1 / ticks 1 = 4 / player 2 4 = 1 / player 2 0 = 2
            """);
    }

    private static void ticks() {
        runs.holds(10, "n TICKS (1 to 24), an ACT each: who is DEAD then (bits).", """
            tell w0,9;s1,1;s0,1;s1,1; = 3 / ticks 1 = 0 / count 6 = 1 / count 3 = 1 / ticks 1 = 2 / count 6 = 2
            ticks 0 = BAD / ticks 25 = BAD / ticks 24 = 2 / count 6 = 24 / count 3 = 26
            tell w7,9;s7,1;s7,1;s7,1;s7,1;s7,1;s7,1;s7,1;r6,1; = 8 / ticks 24 = 127 / ticks 1 = 127
            """);
        runs.holds(10, "FULL: TICK would be above 999.", LATE + """
            ticks 16 = FULL / count 3 = 984 / ticks 24 = FULL / ticks 15 = 2 / count 3 = 999 / ticks 1 = FULL / count 3 = 999
            undo / count 3 = 998 / ticks 2 = FULL / ticks 1 = 2 / count 3 = 999
            """);
        runs.holds(10, "STATE: no CIRCLE (ahead of BAD); FULL", "ticks 1 = STATE / ticks 24 = STATE / ticks 0 = STATE / ticks 25 = STATE");
    }

    private static void ticksRefused() {
        runs.refused(10, "STATE: no CIRCLE (ahead of BAD)", "row 0 0 1 / type w", "ticks 1 = STATE / ticks 0 = STATE / ticks 25 = STATE");
        runs.refused(10, "n TICKS (1 to 24)", BUSY, "ticks 0 = BAD / ticks 25 = BAD / ticks -1 = BAD / ticks min = BAD / ticks max = BAD");
        runs.refused(10, "FULL: TICK would be above 999.", LATE, "ticks 16 = FULL / ticks 24 = FULL");
        runs.refused(10, "FULL: TICK would be above 999.", LATE + "ticks 15", "ticks 1 = FULL / ticks 24 = FULL");
        runs.refused(10, "the first of these that fits", LATE + "ticks 15", "ticks 0 = BAD / ticks 25 = BAD / ticks max = BAD");
    }

    private static void turnHead() {
        runs.holds(11, "A head is turned to a SEAT: where it LOOKED (NONE).", """
            tell w0,9;s1,9;s2,1;d1,1;s0,1; = 4
            turnHead 0 3 = 1 / player 0 1 = 3 / turnHead 0 1 = 3 / turnHead 3 2 = 0 / turnHead 3 0 = 2 / count 6 = 4
            ticks 2 / player 2 1 = NONE / turnHead 2 0 = NONE / player 2 1 = 0
            """);
        runs.holds(11, "a PLAYER that is not DEAD LOOKS at another SEAT, not its own", """
            tell w0,9;s1,1;s0,5;s0,1; = 3 / ticks 1 / player 1 0 = 1 / turnHead 1 2 = 0 / player 1 1 = 2
            ticks 5 = 2 / turnHead 0 2 = 1 / turnHead 0 1 = 2 / player 0 1 = 1 / player 1 5 = 1
            """);
    }

    private static void turnHeadRefused() {
        runs.refused(11, "BAD: no such PLAYER, SEAT, its own", BUSY, """
            turnHead -1 0 = BAD / turnHead 5 0 = BAD / turnHead min 0 = BAD / turnHead max 0 = BAD
            turnHead 0 -1 = BAD / turnHead 0 5 = BAD / turnHead 0 min = BAD / turnHead 0 max = BAD
            turnHead 0 0 = BAD / turnHead 4 4 = BAD / turnHead 5 5 = BAD / turnHead 0 NONE = BAD
            """);
        runs.refused(11, "STATE: it is DEAD, LOOKS there.", BUSY, """
            turnHead 3 0 = STATE / turnHead 3 4 = STATE / turnHead 1 0 = STATE / turnHead 2 0 = STATE / turnHead 4 2 = STATE
            """);
        runs.refused(11, "Refusals are answers, the first of these that fits", BUSY, "turnHead 3 3 = BAD / turnHead 3 5 = BAD / turnHead 3 -1 = BAD");
        runs.refused(11, "BAD: no such PLAYER", "row 0 0 1", "turnHead 0 1 = BAD / turnHead 0 0 = BAD");
    }

    private static void role() {
        runs.holds(12, "Another one is the MURDERER: who was.", """
            tell w0,1;s1,1;s0,1;s0,1; = 3 / role 1 = 0 / role 2 = 1 / role 0 = 2 / count 6 = 3 / stand 1 = 0 / count 2 = 0
            """);
        runs.holds(12, "nobody SAW any more, it is not FOUND OUT", QUICK + """
            ticks 2 = 2 / stand 3 = 1 / player 2 4 = 1 / role 1 = 0 / stand 3 = 0 / player 2 4 = 0 / count 5 = 0 / stand 6 = 2
            tell w2,1;s2,1;s2,1;s1,1; = 3 / ticks 1 / player 0 4 = 1 / stand 3 = 1 / role 0 = 2 / player 0 4 = 0 / count 5 = 0 / stand 3 = 0
            tell w0,1;s7,1;s0,1;s0,1;s0,1;s0,1;s0,1;s0,1;s0,1; = 8 / ticks 1 / player 7 4 = 0 / count 5 = 6
            player 6 4 = 1 / role 7 = 0 / player 6 4 = 0 / count 5 = 0
            """);
        runs.refused(12, "who was. BAD; STATE: it is that one.", BUSY, """
            role -1 = BAD / role 5 = BAD / role min = BAD / role max = BAD / role 0 = STATE
            """);
        runs.refused(12, "BAD; STATE: it is that one.", "row 0 0 1", "role 0 = BAD / role -1 = BAD");
    }

    private static void proof() {
        runs.holds(13, "PROOF (1 to 9): what it was.", """
            tell w0,3;s1,1;s0,1;s0,1; = 3 / proof 1 = 3 / stand 2 = 1 / proof 9 = 1 / stand 2 = 9 / proof 0 = BAD / proof 10 = BAD
            proof 5 = 9 / count 6 = 3
            """);
        runs.holds(13, "PROOF is another", """
            tell w0,9;r0,9;s0,9;s0,9;s0,9; = 4 / ticks 1 / proof 1 = 9 / stand 3 = 0 / player 1 4 = 1 / ticks 1 / stand 3 = 1
            proof 9 = 1 / stand 3 = 1
            """);
        runs.refused(13, "PROOF (1 to 9)", BUSY, "proof 0 = BAD / proof 10 = BAD / proof -1 = BAD / proof min = BAD / proof max = BAD");
        runs.refused(13, "BAD; STATE: no CIRCLE (ahead of BAD)", "row 0 0 1", "proof 1 = STATE / proof 0 = STATE / proof 10 = STATE");
    }

    private static void rise() {
        runs.holds(14, "Sits up: who is DEAD then (bits).", """
            tell w0,9;r0,1;s0,1;s0,1;s0,1; = 4 / ticks 3 = 12 / rise 3 = 4 / rise 2 = 0 / rise 2 = STATE / count 6 = 5
            """);
        runs.holds(14, "one that is DEAD sits up (LIVES, SAW 0, LOOKS at the next SEAT above its own)", """
            tell w0,9;r0,1;s0,1;s0,1;s0,1; = 4 / ticks 3 = 12 / player 3 4 = 2 / player 3 1 = NONE
            rise 3 = 4 / player 3 0 = 0 / player 3 1 = 0 / player 3 3 = 0 / player 3 4 = 0 / player 3 2 = 1 / kind 3 = 2
            rise 2 = 0 / player 2 1 = 3 / player 2 0 = 0 / player 2 4 = 0 / player 1 4 = 2 / stand 1 = 0 / stand 4 = 13
            """);
        runs.refused(14, "BAD; STATE: it is not DEAD.", BUSY, """
            rise -1 = BAD / rise 5 = BAD / rise min = BAD / rise max = BAD
            rise 0 = STATE / rise 1 = STATE / rise 2 = STATE / rise 4 = STATE
            """);
        runs.refused(14, "who is DEAD then (bits). BAD", "row 0 0 1", "rise 0 = BAD / rise -1 = BAD");
    }

    private static void player() {
        runs.leavesAll(15, "Of a PLAYER: 0 how it is (0 LIVES, 1 FADES, 2 DEAD)", BUSY, """
            player 0 0 = 0 / player 2 0 = 1 / player 3 0 = 2 / player 4 0 = 0
            """);
        runs.holds(15, "1 the SEAT at which it LOOKS (NONE)", BUSY + """
            player 0 1 = 4 / player 1 1 = 0 / player 2 1 = 0 / player 3 1 = NONE / player 4 1 = 2 / undo = 3 / player 4 1 = 0
            undo / player 4 1 = NONE / player 3 1 = 0
            """);
        runs.holds(15, "2 SLOW, 3 LEFT (0: it does not FADE), 4 what it SAW, 5 who LOOKS at it (bits)", BUSY + """
            player 0 2 = 9 / player 2 2 = 3 / player 3 2 = 1
            player 0 3 = 0 / player 2 3 = 1 / player 3 3 = 0
            player 0 4 = 0 / player 1 4 = 2 / player 2 4 = 1 / player 3 4 = 1 / player 4 4 = 1
            player 0 5 = 6 / player 1 5 = 0 / player 2 5 = 16 / player 3 5 = 0 / player 4 5 = 1
            """);
        runs.holds(15, "5 who LOOKS at it (bits)", """
            tell w0,1;s7,1;s0,1;s0,1;s0,1;s0,1;s0,1;s0,1;s0,1; = 8 / player 0 5 = 254 / player 7 5 = 1 / player 3 5 = 0
            """);
        runs.refused(15, "5 who LOOKS at it (bits). BAD.", BUSY, """
            player -1 0 = BAD / player 5 0 = BAD / player min 0 = BAD / player max 5 = BAD
            player 0 -1 = BAD / player 0 6 = BAD / player 0 min = BAD / player 4 max = BAD
            """);
        runs.refused(15, "there is no such thing", "row 0 0 1", "player 0 0 = BAD / player -1 9 = BAD");
    }

    private static void stand() {
        runs.leavesAll(16, "0 PLAYERS, 1 the MURDERER, 2 PROOF, 3 whether it is FOUND OUT (1, 0), 4 who LIVES (bits), 5 FADES, "
            + "6 is DEAD.", BUSY, """
            stand 0 = 5 / stand 1 = 0 / stand 2 = 2 / stand 3 = 1 / stand 4 = 19 / stand 5 = 4 / stand 6 = 8
            """);
        runs.holds(16, "3 whether it is FOUND OUT (1, 0)", BUSY + "restore 0 / stand 3 = 0 / restore 1 / stand 3 = 1");
        runs.refused(16, "6 is DEAD. BAD; STATE: no CIRCLE (ahead of BAD).", BUSY, "stand -1 = BAD / stand 7 = BAD / stand min = BAD / stand max = BAD");
        runs.refused(16, "STATE: no CIRCLE (ahead of BAD).", "row 0 0 1", "stand 0 = STATE / stand 6 = STATE / stand -1 = STATE / stand 7 = STATE");
    }

    private static void image() {
        runs.holds(31, "An IMAGE (0, 1) is kept of the CIRCLE: 1.", QUICK + """
            restore 0 = STATE / restore 1 = STATE / image 0 = 1 / restore 1 = STATE / ticks 2 / image 1 = 1 / count 6 = 2
            restore 0 = 1 / count 3 = 0 / restore 1 = 1 / count 3 = 2 / stand 6 = 2
            image 0 = 1 / ticks 1 / restore 0 = 1 / count 3 = 2
            """);
        runs.refused(31, "BAD; STATE: no CIRCLE.", BUSY, "image -1 = BAD / image 2 = BAD / image min = BAD / image max = BAD");
        runs.refused(31, "is kept of the CIRCLE: 1. BAD; STATE: no CIRCLE.", "row 0 0 1", """
            image 0 = STATE / image 1 = STATE / image -1 = BAD / image 2 = BAD
            """);
    }

    private static void restore() {
        runs.holds(32, "The CIRCLE is as an IMAGE kept it (no ACT can be undone then): 1.", BUSY + """
            ticks 1 = 12 / role 4 / proof 9 / rise 3 / undo = 7
            restore 1 = 1 / count 6 = 0 / undo = STATE / stand 0 = 5 / stand 1 = 0 / stand 2 = 2 / stand 3 = 1 / count 3 = 3
            stand 5 = 4 / stand 6 = 8 / player 2 3 = 1 / player 1 4 = 2 / player 4 1 = 0 / count 5 = 5
            circle = F2 / fault = 1
            tell w1,3;h0,1;d0,1;s0,2; = 3 / ticks 2 / restore 0 = 1 / stand 0 = 5 / stand 4 = 31 / count 3 = 0 / kind 0 = 1
            player 4 2 = 5 / player 0 1 = 1 / stand 3 = 0 / undo = STATE / restore 1 = 1 / stand 6 = 8
            """);
        runs.refused(32, "BAD; STATE: none was kept.", QUICK + "image 1 / ticks 1", """
            restore -1 = BAD / restore 2 = BAD / restore min = BAD / restore max = BAD / restore 0 = STATE
            """);
        runs.refused(32, "STATE: none was kept.", "row 0 0 1", "restore 0 = STATE / restore 1 = STATE / restore -1 = BAD / restore 2 = BAD");
    }

    private static void count() {
        runs.leavesAll(37, "How many: 0 ROWS, 1 PLAYERS, 2 the MURDERER, 3 TICK, 4 how many are DEAD, 5 what all SAW together, "
            + "6 ACTS that can be undone, 7 bytes on the tape.", BUSY, """
            count 0 = 1 / count 1 = 5 / count 2 = 0 / count 3 = 3 / count 4 = 1 / count 5 = 5 / count 6 = 4 / count 7 = 2
            """);
        runs.refused(37, "7 bytes on the tape. BAD.", BUSY, "count -1 = BAD / count 8 = BAD / count min = BAD / count max = BAD");
        runs.refused(37, "7 bytes on the tape. BAD.", "", "count -1 = BAD / count 8 = BAD");
        runs.holds(37, "4 how many are DEAD", "tell w7,9;s7,1;s7,1;s7,1;s7,1;s7,1;s7,1;s7,1;r6,1; = 8 / count 4 = 0 / ticks 24 / count 4 = 7");
    }
}
