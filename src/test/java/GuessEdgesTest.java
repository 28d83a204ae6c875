/** Promises 27 to 30, and part 3 of the terms as to them: each sentence that names an edge. */
public final class GuessEdgesTest {
    /** 0 winks at 1 by the first tick, 2 sees it and tells; 1 is dead behind two. */
    private static final String QUICK = "tell w0,1;s1,1;s0,1;s0,1; = 3\n";
    /** The rover 0 winks at 2, then at 3, and is found out by 1; behind three ticks 2 fades yet, 3 is dead. */
    private static final String BUSY = """
        tell w0,2;r0,9;s0,1;s0,3;s0,1;d0,5; = 5
        image 0 / ticks 3 = 8 / image 1 / turnHead 4 2 = 0 / ask 1 0 / type x / circle = F0 / type w0
        row 0 0 3 / set 0 0 2 / row 1 2 13 / set 5 0 0 = NULL
        """;
    /** One is dead behind 13 ticks, a second behind 24. */
    private static final String LATE = "tell w5,2;d2,8;h0,6;d0,9;d0,7;s4,9;r0,9;b6,8;s4,6; = 8\n";
    /** Found out by tick 65. */
    private static final String LATE_OUT = "tell w7,5;b6,7;b1,8;r4,9;r6,7;r4,6;d7,9;h7,7;d0,7; = 8\n";
    private static final String EIGHT = "tell w7,1;s7,1;s7,1;s7,1;s7,1;s7,1;s7,1;s7,1;s0,1; = 8\n";
    private static final String NO_CIRCLE = "row 0 0 1 / type w\n";

    private static final Runs runs = new Runs("GuessEdgesTest");

    public static void main(String[] args) {
        howManyTurns();
        whoseTurns();
        turnsRefused();
        howLongARow();
        murderers();
        kinds();
        looks();
        slownesses();
        whoRefused();
        sleepers();
        fractions();
        sleepRefused();
        draws();
        drawnPlayers();
        drawnRefused();
        nothingChanges();
        runs.cover(27, 30);
        runs.end();
    }

    private static void howManyTurns() {
        runs.holds(27, "TURNS of two, n in all (0 to 3), m TICKS (1 to 20)", """
            tell w0,1;s1,1;s0,1;s1,1; = 3 / byTurns 0 1 = 0 / byTurns 0 2 = 1 / byTurns 0 20 = 1 / byTurns 0 21 = BAD / byTurns 0 0 = BAD
            byTurns 1 20 = 1 / byTurns 2 20 = 0 / byTurns 3 20 = 0 / byTurns 4 20 = BAD / byTurns -1 20 = BAD
            """);
        runs.holds(27, "m TICKS (1 to 20)", LATE + "byTurns 0 12 = 0 / byTurns 0 13 = 1 / ticks 4 / byTurns 0 19 = 1 / byTurns 0 20 = 2");
        // 0 looks at 2, who looks at 1, who looks at 0: the first turn finds 1, the second turns 1 away, the third finds it no more.
        runs.holds(27, "the one turns the head of the MURDERER to another SEAT, not its own, or does nothing", """
            tell w0,1;s2,1;s0,1;s1,1;s1,1; = 4 / byTurns 0 20 = 0 / byTurns 1 20 = 1 / byTurns 2 20 = 0 / byTurns 3 20 = 0
            tell w0,1;s1,1;s0,1;s1,1;s1,1; = 4 / byTurns 1 20 = 1
            """);
        runs.holds(27, "and so on with these two heads, all now", """
            tell w0,9;r1,1;r0,1;s3,1;s2,1; = 4 / byTurns 0 4 = 1 / byTurns 1 4 = 1 / byTurns 2 4 = 0 / byTurns 3 4 = 1
            """);
    }

    private static void whoseTurns() {
        runs.holds(27, "then the other one turns that of the next PLAYER above it, round, likewise", """
            tell w3,9;r2,1;s2,1;s1,1;r1,1; = 4 / byTurns 0 4 = 0 / byTurns 1 4 = 1 / byTurns 2 4 = 0 / byTurns 3 4 = 1
            tell w2,1;s2,1;s2,1;s1,1; = 3 / byTurns 0 3 = 1 / byTurns 2 3 = 1
            tell w2,1;s2,1;s0,1;s0,1; = 3 / byTurns 0 3 = 1 / byTurns 1 3 = 1 / byTurns 2 3 = 0 / byTurns 3 3 = 0
            """);
        runs.holds(27, "or does nothing (also if it is DEAD)", """
            tell w0,9;s1,1;s0,1;s0,1; = 3 / ticks 2 = 2 / byTurns 1 3 = 2 / byTurns 2 3 = 2 / byTurns 3 3 = 2
            role 1 = 0 / byTurns 0 3 = 1 / byTurns 1 3 = 1 / byTurns 2 3 = 1 / byTurns 3 3 = 1
            role 2 = 1 / turnHead 0 2 = 1 / turnHead 2 1 = 0 / byTurns 0 3 = 1 / byTurns 1 3 = 2 / byTurns 2 3 = 1
            """);
        runs.holds(27, "how many are DEAD; the one wants that great, the other little: what comes of it.", QUICK + """
            ticks 2 = 2 / stand 3 = 1 / byTurns 0 20 = 1 / byTurns 1 20 = 1 / byTurns 3 1 = 1
            """);
        runs.holds(27, "to another SEAT, not its own", """
            tell w0,9;d2,1;s0,1;s1,1; = 3 / ticks 2 / player 0 1 = NONE / byTurns 0 3 = 1 / byTurns 1 3 = 1 / byTurns 3 3 = 1
            """);
    }

    private static void turnsRefused() {
        runs.refused(27, "TURNS. BAD", BUSY, """
            byTurns -1 1 = BAD / byTurns 4 1 = BAD / byTurns min 1 = BAD / byTurns max 1 = BAD
            byTurns 0 0 = BAD / byTurns 0 21 = BAD / byTurns 3 -1 = BAD / byTurns 3 min = BAD / byTurns 3 max = BAD
            """);
        runs.refused(27, "TURNS. BAD; STATE: no CIRCLE (ahead of BAD).", NO_CIRCLE,
            "byTurns 0 1 = STATE / byTurns 4 1 = STATE / byTurns 0 0 = STATE / byTurns 0 21 = STATE");
    }

    private static void howLongARow() {
        // The rover 1 comes to look at 0 by tick 3, and is dead nine ticks later.
        runs.holds(28, "A row tells how many are DEAD behind each of n TICKS (1 to 12) from now on.", """
            tell w0,9;s1,1;r0,9;s1,1;s1,1; = 4 / row 0 0 13 / set 0 11 1
            who 1 3 0 0 12 = 512 / who 1 3 0 0 11 = 512 / who 1 3 0 0 10 = 768 / who 1 3 0 0 1 = 1022 / who 1 3 0 0 13 = BAD / who 1 3 0 0 0 = BAD
            set 0 10 1 / who 1 3 0 0 12 = 256 / who 1 3 0 0 11 = 256 / set 0 11 2 / who 1 3 0 0 12 = 0 / who 1 3 0 0 11 = 256
            """);
        runs.holds(28, "n ITEMS of a ROW from i on", QUICK + """
            row 0 0 40 / set 0 39 1 / who 1 3 0 38 2 = 2 / who 1 3 0 37 3 = 4 / who 1 3 0 28 12 = 0 / who 1 3 0 39 1 = 0
            who 1 3 0 39 2 = PLACE / who 1 3 0 40 1 = PLACE / who 1 3 0 29 12 = PLACE / who 1 3 0 -1 1 = PLACE
            """);
        runs.holds(28, "from now on", QUICK + """
            row 0 0 2 / set 0 1 1 / who 1 3 0 0 2 = 2 / ticks 1 / who 1 3 0 0 2 = 0 / who 1 3 0 1 1 = 1022 / ticks 1 / who 1 3 0 1 1 = 1022
            """);
        runs.holds(28, "how many are DEAD", QUICK + """
            row 0 0 1 / row 1 1 1 / row 2 2 1 / who 0 0 0 0 1 = 7 / set 0 0 -1 / who 0 0 0 0 1 = 0 / set 0 0 256 / who 0 0 0 0 1 = 7
            set 1 0 256 / who 0 0 1 0 1 = 0 / set 2 0 65536 / who 0 0 2 0 1 = 0 / set 2 0 min / who 0 0 2 0 1 = 0
            """);
    }

    private static void murderers() {
        runs.holds(28, "MURDERERS (bits) from now on", QUICK + """
            row 0 0 3 / set 0 1 1 / set 0 2 1 / who 0 0 0 0 3 = 3 / who 2 0 0 0 3 = 3 / row 1 0 3 / who 1 0 1 0 3 = 4 / who 0 0 1 0 1 = 7
            ticks 2 = 2 / row 2 0 1 / set 2 0 1 / who 1 0 2 0 1 = 7
            """);
        runs.holds(28, "MURDERERS (which = 0)", EIGHT + "row 0 0 2 / who 0 0 0 0 1 = 255 / who 7 0 0 0 2 = 126 / set 0 1 1 / who 7 0 0 0 2 = 129");
    }

    private static void kinds() {
        runs.holds(28, "KINDS (bits 1 to 5) of a PLAYER", QUICK + """
            row 0 0 3 / who 1 1 0 0 1 = 62 / who 1 1 0 0 3 = 48 / set 0 2 1 / who 1 1 0 0 3 = 10 / set 0 1 1 / who 1 1 0 0 3 = 4
            set 0 0 1 / who 1 1 0 0 3 = 0 / ticks 2 = 2 / who 1 1 0 0 3 = 62
            """);
    }

    private static void looks() {
        runs.holds(28, "LOOKS of it (SEATS, bits, not its own)", QUICK + """
            row 0 0 3 / who 1 2 0 0 1 = 5 / who 0 2 0 0 1 = 6 / who 2 2 0 0 1 = 3 / who 1 2 0 0 3 = 4
            set 0 1 1 / set 0 2 1 / who 1 2 0 0 3 = 1 / who 0 2 0 0 3 = 6 / who 2 2 0 0 3 = 3 / set 0 0 1 / who 0 2 0 0 3 = 0
            """);
        runs.holds(28, "STATE: by LOOKS, if it is DEAD", QUICK + """
            row 0 0 1 / ticks 1 / who 1 2 0 0 1 = 0 / set 0 0 1 / who 1 2 0 0 1 = 5 / ticks 1 = 2 / who 1 2 0 0 1 = STATE
            who 1 0 0 0 1 = 7 / who 1 1 0 0 1 = 62 / who 1 3 0 0 1 = 1022 / who 0 2 0 0 1 = 6 / rise 1 / set 0 0 0 / who 1 2 0 0 1 = 5
            """);
    }

    private static void slownesses() {
        runs.holds(28, "SLOWNESSES (1 to 9, bits), by which it is so", QUICK + """
            row 0 0 12 / who 1 3 0 0 1 = 1022 / who 1 3 0 0 2 = 1020 / who 1 3 0 0 9 = 512 / who 1 3 0 0 10 = 0 / who 2 3 0 0 1 = 1022
            set 0 1 1 / who 1 3 0 0 2 = 2 / set 0 1 0 / set 0 9 1 / who 1 3 0 0 10 = 512 / set 0 8 1 / who 1 3 0 0 9 = 256
            """);
    }

    private static void whoRefused() {
        runs.refused(28, "BAD: PLAYER, which, ROW, n", BUSY, """
            who -1 0 0 0 1 = BAD / who 5 0 0 0 1 = BAD / who min 0 0 0 1 = BAD / who max 0 0 0 1 = BAD
            who 0 -1 0 0 1 = BAD / who 0 4 0 0 1 = BAD / who 0 min 0 0 1 = BAD / who 0 max 0 0 1 = BAD
            who 0 0 -1 0 1 = BAD / who 0 0 8 0 1 = BAD / who 0 0 min 0 1 = BAD / who 0 0 max 0 1 = BAD
            who 0 0 0 0 0 = BAD / who 0 0 1 0 13 = BAD / who 0 0 0 0 -1 = BAD / who 0 0 0 0 min = BAD / who 0 0 0 0 max = BAD
            """);
        runs.refused(28, "STATE: by LOOKS, if it is DEAD; NULL; PLACE.", BUSY, """
            who 3 2 0 0 1 = STATE / who 0 0 2 0 1 = NULL / who 0 3 7 0 1 = NULL / who 0 2 2 0 1 = NULL
            who 0 0 0 -1 1 = PLACE / who 0 0 0 3 1 = PLACE / who 0 0 0 2 2 = PLACE / who 0 0 0 0 4 = PLACE / who 0 0 1 2 12 = PLACE
            who 0 0 0 min 1 = PLACE / who 0 0 0 max 1 = PLACE / who 0 0 0 max 12 = PLACE / who 0 2 0 3 1 = PLACE
            """);
        runs.refused(28, "Refusals are answers, the first of these that fits", BUSY, """
            who 3 2 8 0 1 = BAD / who 3 2 0 0 13 = BAD / who 3 2 2 0 0 = BAD / who 3 2 2 0 1 = STATE / who 3 2 0 9 1 = STATE
            who 0 0 2 -1 1 = NULL / who 0 0 2 9 12 = NULL / who 0 0 2 0 13 = BAD / who 0 4 2 -1 1 = BAD / who 5 0 2 -1 1 = BAD
            """);
        runs.refused(28, "there is no such thing", NO_CIRCLE, "who 0 0 0 0 1 = BAD / who 0 2 1 0 1 = BAD / who 0 0 0 9 1 = BAD");
    }

    private static void likely(StringBuilder lines, int n, int p, long above, long below) {
        lines.append("sleep ").append(n).append(' ').append(p).append(" 0 = ").append(above).append(" / sleep ")
            .append(n).append(' ').append(p).append(" 1 = ").append(below).append('\n');
    }

    private static void sleepers() {
        StringBuilder lines = new StringBuilder();
        likely(lines, 60, 0, 1, 1);
        likely(lines, 1, 1, 81, 100);
        likely(lines, 1, 9, 1, 100);
        likely(lines, 60, 10, 0, 1);
        runs.holds(29, "SLEEP by p of 10 (0 to 10)", QUICK + lines + "sleep 1 -1 0 = BAD / sleep 1 11 0 = BAD / sleep 1 11 1 = BAD");

        lines.setLength(0);
        lines.append("ticks 4\n");
        likely(lines, 60, 0, 0, 1);
        lines.append("ticks 1\n");
        likely(lines, 60, 0, 1, 1);
        likely(lines, 59, 0, 0, 1);
        likely(lines, 0, 0, 0, 1);
        lines.append("sleep 61 0 0 = BAD / sleep -1 0 0 = BAD");
        runs.holds(29, "how likely it is FOUND OUT behind n TICKS (0 to 60)", LATE_OUT + lines);

        lines.setLength(0);
        lines.append("ticks 1 / stand 3 = 1\n");
        likely(lines, 0, 10, 1, 1);
        likely(lines, 60, 10, 1, 1);
        likely(lines, 0, 3, 1, 1);
        runs.holds(29, "how likely it is FOUND OUT", QUICK + lines);

        // 3 is winked at if it is awake, and 1 or 2, who fades, must be awake to see it.
        lines.setLength(0);
        lines.append("ticks 1 / stand 5 = 4 / proof 1\n");
        likely(lines, 1, 5, 3, 8);
        runs.holds(29, "each PLAYER that is neither DEAD nor the MURDERER falls asleep now in p of 10 cases, apart",
            "tell w0,9;r0,9;s0,9;s0,9;s0,9; = 4\n" + lines);

        lines.setLength(0);
        lines.append("ticks 2 = 2 / turnHead 0 2 / proof 1 / turnHead 1 0 = STATE\n");
        likely(lines, 60, 5, 1, 4);
        likely(lines, 60, 10, 0, 1);
        runs.holds(29, "neither DEAD nor the MURDERER", "tell w0,9;s1,1;s0,1;s0,1;s0,1; = 4\n" + lines);

        // Both 1, a rover, and 3 come to look at 0 by tick 2: only awake ones look on.
        lines.setLength(0);
        likely(lines, 1, 5, 0, 1);
        likely(lines, 2, 5, 1, 4);
        likely(lines, 60, 5, 1, 4);
        runs.holds(29, "(it LOOKS at none from now on)", "tell w0,1;s1,1;r2,1;s1,1;b2,1; = 4\n" + lines);
    }

    private static void fractions() {
        StringBuilder lines = new StringBuilder();
        likely(lines, 1, 1, 8999991, 10000000);
        likely(lines, 1, 5, 63, 128);
        likely(lines, 1, 9, 468559, 10000000);
        likely(lines, 1, 0, 1, 1);
        likely(lines, 1, 10, 0, 1);
        runs.holds(29, "fractions, told as two numbers in lowest terms (0 is 0 by 1)", EIGHT + lines);

        lines.setLength(0);
        lines.append("ticks 4 = 6\n");
        likely(lines, 60, 7, 0, 1);
        runs.holds(29, "(0 is 0 by 1)", "tell w0,9;r0,1;s0,1;s0,1; = 3\n" + lines);
    }

    private static void sleepRefused() {
        runs.refused(29, "SLEEP: above (what = 0), below (1). BAD", BUSY, """
            sleep -1 0 0 = BAD / sleep 61 0 0 = BAD / sleep min 0 0 = BAD / sleep max 0 1 = BAD
            sleep 0 -1 0 = BAD / sleep 0 11 0 = BAD / sleep 0 min 0 = BAD / sleep 0 max 1 = BAD
            sleep 0 0 -1 = BAD / sleep 0 0 2 = BAD / sleep 0 0 min = BAD / sleep 0 0 max = BAD
            """);
        runs.refused(29, "below (1). BAD; STATE: no CIRCLE (ahead of BAD).", NO_CIRCLE,
            "sleep 0 0 0 = STATE / sleep 0 0 1 = STATE / sleep 61 0 0 = STATE / sleep 0 11 0 = STATE / sleep 0 0 2 = STATE");
    }

    private static void draws() {
        runs.holds(30, "GAMES of n TICKS (0 to 60) by a SEED", "tell w0,1;r0,1;s0,1;s0,1;s0,1; = 4\n" + """
            drawn 0 8 0 = 0 / drawn 0 8 1 = 0 / drawn 59 8 1 = 2 / drawn 60 8 1 = 3 / drawn 59 30 0 = 8 / drawn 60 30 0 = 9
            drawn 61 8 0 = BAD / drawn -1 8 0 = BAD
            """);
        runs.holds(30, "GAMES by a SEED (1 to 999999)", QUICK + """
            drawn 1 1 0 = 0 / drawn 1 1 1 = 1 / drawn 1 999999 0 = 0 / drawn 1 999999 1 = 1 / drawn 1 0 0 = BAD / drawn 1 1000000 0 = BAD
            """);
        // X of seed 1: 16807, 282475249, 1622650073, 984943658, 1144108930, 470211272, 101027544, 1457850878,
        // so players 1, 1, 2, 2, 1, 2, 0, 2 of three: 1 fades, and is the murderer then, winks at 0, dies, 0 dies;
        // 1 sits up, then 0.
        runs.holds(30, "ahead of each X becomes the rest of (X times 16807) by 2147483647", QUICK + """
            drawn 1 1 0 = 0 / drawn 2 1 0 = 1 / drawn 3 1 0 = 2 / drawn 8 1 0 = 2
            drawn 1 1 1 = 1 / drawn 2 1 1 = 1 / drawn 3 1 1 = 1 / drawn 8 1 1 = 1
            """);
        runs.holds(30, "how many died in them, how often it was FOUND OUT", QUICK + """
            ticks 2 = 2 / drawn 0 1 0 = 0 / drawn 0 1 1 = 0 / drawn 1 2 0 = 0
            tell w0,9;r2,1;s0,1;s0,1; = 3 / ticks 2 = 2 / stand 5 = 4 / drawn 1 9 0 = 1 / drawn 1 9 1 = 0
            """);
    }

    private static void drawnPlayers() {
        // X of seed 9: 151263, which leaves 0 by 3, then 394793594, which leaves 2.
        runs.holds(30, "else, if X by 3 leaves 0, its head is turned to the SEAT that X by 8 (cut) leaves by how many there are", """
            tell w2,9;s1,1;s0,1;s3,1;s0,1;s0,1; = 5 / toll 2 0 = 0 / drawn 2 9 0 = 1
            tell w2,9;s1,1;s0,1;s3,1;s0,1;s0,1;s0,1; = 6 / drawn 2 9 0 = 0
            """);
        runs.holds(30, "if that is not its own", "tell w2,9;s1,1;s0,1;s3,1;s2,1; = 4 / drawn 1 9 0 = 0 / drawn 2 9 0 = 1");
        // X of seed 1 is 16807: 1 sits up, looks at 2, and is the murderer; 2 looks at it, 0 sees it.
        runs.holds(30, "if it is FOUND OUT, that PLAYER is the MURDERER", QUICK + """
            ticks 2 = 2 / stand 3 = 1 / turnHead 2 1 = 0 / drawn 1 1 1 = 1 / drawn 1 1 0 = 0 / drawn 2 1 0 = 1
            """);
        runs.holds(30, "if it is DEAD, sits up; else", "tell w0,9;s1,1;r2,1;s1,1; = 3\n" + """
            ticks 2 = 2 / drawn 1 1 0 = 0 / drawn 2 1 0 = 1
            """);
    }

    private static void drawnRefused() {
        runs.refused(30, "how many died (what = 0), how often FOUND OUT (1). BAD", BUSY, """
            drawn -1 1 0 = BAD / drawn 61 1 0 = BAD / drawn min 1 0 = BAD / drawn max 1 1 = BAD
            drawn 1 0 0 = BAD / drawn 1 1000000 0 = BAD / drawn 1 -1 0 = BAD / drawn 1 min 0 = BAD / drawn 1 max 1 = BAD
            drawn 1 1 -1 = BAD / drawn 1 1 2 = BAD / drawn 1 1 min = BAD / drawn 1 1 max = BAD
            """);
        runs.refused(30, "how often FOUND OUT (1). BAD; STATE: no CIRCLE (ahead of BAD).", NO_CIRCLE,
            "drawn 0 1 0 = STATE / drawn 61 1 0 = STATE / drawn 0 0 0 = STATE / drawn 0 1 2 = STATE");
    }

    private static void nothingChanges() {
        runs.leavesAll(27, "FORETOLD (nothing changes).", BUSY, "byTurns 3 20 = 2 / byTurns 0 1 = 2");
        runs.leavesAll(29, "FORETOLD (nothing changes).", BUSY, "sleep 60 5 0 = 1 / sleep 60 5 1 = 1");
        runs.leavesAll(29, "FORETOLD (nothing changes).", QUICK, "sleep 60 5 0 = 1 / sleep 60 5 1 = 4");
        runs.leavesAll(30, "FORETOLD (nothing changes).", BUSY, "drawn 60 1 0 / drawn 60 999999 1 / drawn 0 1 0 = 0");
        runs.holds(29, "FORETOLD (nothing changes).", QUICK + """
            sleep 60 10 0 = 0 / toll 2 0 = 2 / sleep 60 5 0 = 1 / when 1 2 = 2 / sleep 60 5 1 = 4 / drawn 2 1 0 = 1 / out = 1
            sleep 60 9 0 / byTurns 0 2 = 1 / sleep 60 9 0 / bestRole 2 1 = 1 / sleep 60 9 0 / glance 2 1 = 1 / sleep 60 9 0 / pass 2 = 2
            sleep 60 9 0 / meet 0 1 = 0 / ahead 1 1 1 = 0 / ticks 2 = 2
            """);
        // A guess that had no finding leaves status() at 0, so it was 0 ahead.
        runs.leavesAll(28, "FORETOLD (nothing changes).", BUSY + "as 0 0 = 0", """
            who 0 0 0 0 1 = 31 / who 2 1 0 0 1 = 62 / who 2 2 0 0 1 = 27 / who 2 3 0 0 1 = 1022 / who 0 0 1 0 12 = 0
            """);
    }
}
