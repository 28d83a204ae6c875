/** Promises 1 and 6 to 9, and part 1 of the terms as to texts: each sentence that names an edge. */
public final class TextEdgesTest {
    private static final String LAW = "w0,1;", ROVER = "r0,1;", THREE = LAW + ROVER + ROVER + ROVER;
    private static final String EIGHT = THREE + ROVER + ROVER + ROVER + ROVER + ROVER;
    /** Acts, images, rows, a fault, a trace, one dead, two that saw; the tape is empty. */
    private static final String BUSY = """
        tell w0,1;s1,1;s0,1;s0,1;h2,4; = 4
        ticks 1 / image 0 / ticks 1 / turnHead 3 1 / image 1 / ask 1 0 / type x / circle = F0
        row 0 0 3 / set 0 1 1 / set 5 0 0 = NULL
        """;

    private static final Runs runs = new Runs("TextEdgesTest");

    public static void main(String[] args) {
        newObject();
        feed();
        feedRefused();
        law();
        players();
        tokens();
        end();
        faultsOfNumbers();
        faultsOfRoom();
        firstAndLeast();
        inPlace();
        allStaysByFault();
        fault();
        undo();
        undoRefused();
        runs.cover(1, 1);
        runs.cover(6, 9);
        runs.end();
    }

    private static void newObject() {
        runs.holds(1, "No CIRCLE.", """
            ticks 1 = STATE / proof 1 = STATE / stand 0 = STATE / toll 0 0 = STATE / out = STATE
            bestRole 1 0 = STATE / glance 1 0 = STATE / pass 1 = STATE / sets 0 0 = STATE / byTurns 0 1 = STATE
            sleep 0 0 0 = STATE / sleep 0 0 1 = STATE / drawn 0 1 0 = STATE / image 0 = STATE / image 1 = STATE
            restore 0 = STATE / restore 1 = STATE / undo = STATE
            turnHead 0 1 = BAD / role 0 = BAD / rise 0 = BAD / player 0 0 = BAD / ahead 0 0 0 = BAD / when 0 1 = BAD
            meet 0 1 = BAD / share 0 0 = BAD / kind 0 = BAD / as 0 0 = BAD / ask 0 0 = BAD
            row 0 0 1 / who 0 0 0 0 1 = BAD
            trace 0 = NONE / fault = 0 / status = 0
            count 1 = 0 / count 2 = 0 / count 3 = 0 / count 4 = 0 / count 5 = 0 / count 6 = 0 / count 7 = 0
            """);
        runs.holds(1, "stands in place of the one before (none at first)", "stand 0 = STATE / tell " + THREE
            + " = 3 / stand 0 = 3");
    }

    private static void feed() {
        runs.holds(6, "A byte (0 to 255) comes behind the tape: how many it has.", """
            feed 0 = 1 / feed 255 = 2 / count 7 = 2 / feed -1 = BAD / feed 256 = BAD / count 7 = 2 / feed 'w = 3
            circle = F0 / feed 'w = 1
            """);
        runs.holds(6, "THE TAPE has at most 100 bytes", """
            99 * feed 'w / count 7 = 99 / feed 'w = 100 / feed 'w = FULL / count 7 = 100 / feed 255 = FULL
            circle = F1 / fault = 1 / count 7 = 0 / feed 'w = 1
            """);
        runs.holds(6, "that come one by one", "feed 'w = 1 / type 0,1;r0,1;r0,1;r0,1; = 20 / circle = 3");
        // All hundred are read: the hundredth has the fault.
        String longest = "w00,01;" + "r00,01;".repeat(8);
        runs.holds(7, "the end: how many bytes there are", "type " + longest + " = 63 / circle = 8");
        runs.holds(7, "THE TAPE has at most 100 bytes", "100 * feed 'r / circle = F0 / tell " + THREE + " = 3");
    }

    private static void feedRefused() {
        String full = BUSY + "100 * feed 'w\n";
        runs.refused(6, "A byte (0 to 255)", BUSY + "type w0", "feed -1 = BAD / feed 256 = BAD / feed min = BAD / feed max = BAD");
        runs.refused(6, "BAD; FULL.", full, "feed 0 = FULL / feed 255 = FULL / feed 'w = FULL");
        runs.refused(6, "the first of these that fits", full, "feed -1 = BAD / feed 256 = BAD");
    }

    private static void law() {
        runs.holds(7, "a PLAYER, perhaps one that there is not: then the last one; 0 to 7; 1 to 9", """
            tell w0,1;r0,1;r0,1;r0,1; = 3 / stand 1 = 0 / stand 2 = 1
            tell w2,9;r0,1;r0,1;r0,1; = 3 / stand 1 = 2 / stand 2 = 9
            tell w3,1;r0,1;r0,1;r0,1; = 3 / stand 1 = 2
            tell w7,1;r0,1;r0,1;r0,1; = 3 / stand 1 = 2
            tell w3,1;r0,1;r0,1;r0,1;r0,1; = 4 / stand 1 = 3
            tell w8,1;r0,1;r0,1;r0,1; = F1 / fault = 2
            tell w0,0;r0,1;r0,1;r0,1; = F3 / fault = 2
            tell w0,10;r0,1;r0,1;r0,1; = F3 / fault = 2
            """);
        runs.holds(7, "then the last one", "tell w7,1;" + ROVER.repeat(8) + " = 8 / stand 1 = 7 / tell w7,1;"
            + ROVER.repeat(7) + " = 7 / stand 1 = 6");
    }

    private static void players() {
        runs.holds(7, "SORT: r a rover, s a starer, b one that roves back, h a shy one, d a dozer", """
            tell w0,1;r1,1;s0,1;b0,1;h0,1;d0,1; = 5
            kind 0 = 1 / kind 1 = 2 / kind 2 = 3 / kind 3 = 4 / kind 4 = 5
            tell w0,1;a0,1; = F5 / fault = 1 / tell w0,1;c0,1; = F5 / tell w0,1;e0,1; = F5 / tell w0,1;g0,1; = F5
            tell w0,1;q0,1; = F5 / tell w0,1;t0,1; = F5 / tell w0,1;w0,1; = F5 / tell w0,1;z0,1; = F5
            tell w0,1;R0,1; = F5 / tell w0,1;i0,1; = F5
            """);
        runs.holds(7, "a SEAT, 0 to 7, perhaps one that there is not, or its own: then it is the next SEAT above its "
            + "own, round", """
            tell w0,1;r2,1;s0,1;h1,1; = 3 / player 0 1 = 2 / player 1 1 = 0 / player 2 1 = 1
            tell w0,1;r0,1;s1,1;h2,1; = 3 / player 0 1 = 1 / player 1 1 = 2 / player 2 1 = 0
            tell w0,1;r3,1;s3,1;h3,1; = 3 / player 0 1 = 1 / player 1 1 = 2 / player 2 1 = 0
            tell w0,1;d7,1;s7,1;b7,1; = 3 / player 0 1 = 1 / player 1 1 = 2 / player 2 1 = 0
            tell w0,1;r8,1;r0,1;r0,1; = F6 / fault = 2
            """);
        runs.holds(7, "or its own: then it is the next SEAT above its own, round", "tell w0,1;" + "s7,1;".repeat(8)
            + " = 8 / player 7 1 = 0 / player 6 1 = 7 / player 0 1 = 7");
        runs.holds(7, "1 to 9; PLAYERS 0 .. 7", """
            tell w0,1;r0,1;r0,9;r0,5; = 3 / player 0 2 = 1 / player 1 2 = 9 / player 2 2 = 5
            tell w0,1;r0,0;r0,9;r0,5; = F8 / fault = 2
            tell w0,1;r0,10;r0,9;r0,5; = F8 / fault = 2
            """);
        runs.holds(7, "PLAYERS 0 .. 7, each on the SEAT of its number, 3 to 8", "tell " + LAW + ROVER + ROVER
            + " = F15 / fault = 1 / tell " + THREE + " = 3 / tell " + EIGHT + " = 8 / player 7 1 = 0 / player 8 1 = BAD"
            + " / tell " + EIGHT + ROVER + " = F45 / fault = 3 / stand 0 = 8");
    }

    private static void tokens() {
        runs.holds(7, "NUMBERS (figures, 2 at most)", """
            tell w00,01;r01,01;r00,09;r00,1; = 3 / stand 1 = 0 / stand 2 = 1 / player 0 1 = 1 / player 1 2 = 9
            tell w07,09;r07,09;r00,09;r00,1; = 3 / stand 1 = 2 / stand 2 = 9 / player 0 1 = 1
            tell w08,1; = F1 / fault = 2 / tell w99,1; = F1 / fault = 2 / tell w0,00; = F3 / fault = 2
            tell w0,1;r08,1; = F6 / fault = 2 / tell w0,1;r0,00; = F8 / fault = 2 / tell w0,1;r0,99; = F8 / fault = 2
            """);
        runs.holds(7, "a run of three figures, at its first", """
            tell w000,1; = F1 / fault = 1 / tell w0,001; = F3 / fault = 1 / tell w0,1;r000,1; = F6 / fault = 1
            tell w0,1;r0,001; = F8 / fault = 1 / tell w123 = F1 / fault = 1 / tell w0000000001,1; = F1 / fault = 1
            tell 000 = F0 / fault = 1 / tell w0,1;000 = F5 / fault = 1 / tell w0,999; = F3 / fault = 1
            """);
        runs.holds(7, "SIGNS , and ; nothing else", """
            type w0 / feed 32 / type ,1;r0,1;r0,1;r0,1; / circle = F2 / fault = 1
            feed 32 / type w0,1;r0,1;r0,1;r0,1; / circle = F0 / fault = 1
            type w0,1; / feed 10 / type r0,1;r0,1;r0,1; / circle = F5 / fault = 1
            type w / feed 47 / circle = F1 / type w / feed 58 / circle = F1 / type w0,1;r / feed 45 / type 1,1; / circle = F6
            type w0,1;r0,1;r0,1;r0,1; / feed 0 / circle = F20 / fault = 1
            type w0,1;r0,1;r0,1;r0,1; / feed 255 / circle = F20 / fault = 1
            tell w0.1;r0,1;r0,1;r0,1; = F2 / tell w0,1:r0,1;r0,1;r0,1; = F4
            type w0,1;r0,1;r0,1; / feed 242 / type 0,1; / circle = F15 / fault = 1
            """);
        runs.holds(7, "letters a to z (each by itself)", """
            tell ww0,1; = F1 / fault = 1 / tell w0,1;rr0,1; = F6 / fault = 1 / tell W0,1; = F0 / fault = 1
            tell w0,1;r0,1;r0,1;rs0,1; = F16 / fault = 1
            """);
        runs.holds(7, "law: w MURDERER , PROOF ;", """
            tell r0,1; = F0 / fault = 1 / tell 0,1; = F0 / fault = 1 / tell w,1; = F1 / fault = 1 / tell w;0,1; = F1
            tell w0;1; = F2 / fault = 1 / tell w01; = F3 / fault = 1 / tell w0,; = F3 / fault = 1
            tell w0,,1; = F3 / fault = 1 / tell w0,1, = F4 / fault = 1 / tell w0,1r0,1; = F4 / fault = 1
            """);
        runs.holds(7, "player: SORT LOOK , SLOW ;", """
            tell w0,1;0,1; = F5 / fault = 1 / tell w0,1;,0,1; = F5 / fault = 1 / tell w0,1;; = F5 / fault = 1
            tell w0,1;r,1; = F6 / fault = 1 / tell w0,1;r0;1; = F7 / fault = 1 / tell w0,1;r01; = F8 / fault = 1
            tell w0,1;r0,; = F8 / fault = 1 / tell w0,1;r0,1, = F9 / fault = 1 / tell w0,1;r0,1r0,1; = F9 / fault = 1
            """);
    }

    private static void end() {
        StringBuilder lines = new StringBuilder();
        for (int bytes = 0; bytes < THREE.length(); bytes++) {
            lines.append("tell ").append(THREE, 0, bytes).append(" = F").append(bytes).append(" / fault = 1 / stand 0 = STATE\n");
        }
        runs.holds(7, "the end: how many bytes there are", lines + "tell " + THREE + " = 3");
        // What was on the tape before is not there any more.
        runs.holds(7, "The tape, empty then", "tell w00,01;r00,01;r00,01;r00,01; = 3 / tell w0,1; = F5 / fault = 1 / "
            + "tell w00,01;r00,01;r00,01;r00,01; = 3 / tell w0 = F2 / fault = 1 / tell w00,0 = F4 / "
            + "fault = 2 / tell w00,01;r0 = F9 / fault = 1 / tell w0,1; = F5 / fault = 1 / tell " + LAW + ROVER + " = F10 / tell "
            + LAW + ROVER + ROVER + " = F15 / tell = F0 / fault = 1 / stand 0 = 3");
        runs.holds(7, "circle: law player player player { player }.", "tell " + THREE + "s = F21 / fault = 1 / tell "
            + THREE + "s0 = F22 / fault = 1 / tell " + THREE + "s0, = F23 / fault = 1 / tell " + THREE
            + "s0,1 = F24 / fault = 1 / tell " + THREE + "s0,1; = 4 / tell " + THREE + "w0,1; = F20 / fault = 1 / tell "
            + THREE + "; = F20 / fault = 1 / tell " + THREE + ", = F20 / fault = 1 / tell " + THREE
            + "5 = F20 / fault = 1 / tell = F0 / fault = 1");
    }

    private static void faultsOfNumbers() {
        runs.holds(7, "2 a NUMBER that is not as told", """
            tell w7,1; = F5 / fault = 1 / tell w8,1; = F1 / fault = 2 / tell w10,1; = F1 / fault = 2
            tell w0,0; = F3 / fault = 2 / tell w0,9; = F5 / fault = 1 / tell w0,10; = F3 / fault = 2
            tell w00,0; = F4 / fault = 2 / tell w00,10; = F4 / fault = 2
            tell w0,1;r7,1; = F10 / fault = 1 / tell w0,1;r8,1; = F6 / fault = 2 / tell w0,1;r10,1; = F6 / fault = 2
            tell w0,1;r0,0; = F8 / fault = 2 / tell w0,1;r0,9; = F10 / fault = 1 / tell w0,1;r0,10; = F8 / fault = 2
            tell w8 = F1 / fault = 2 / tell w0,0 = F3 / fault = 2
            """);
    }

    private static void faultsOfRoom() {
        runs.holds(7, "3 a player more than there is room for (its letter)", "tell " + EIGHT + " = 8 / tell " + EIGHT
            + "r0,1; = F45 / fault = 3 / tell " + EIGHT + "d = F45 / fault = 3 / tell " + EIGHT
            + "s9,0 = F45 / fault = 3 / tell " + EIGHT + "b0,1;h0,1; = F45 / fault = 3");
        runs.holds(7, "of one TOKEN the least: 1 it cannot stand there", "tell " + EIGHT + "x = F45 / fault = 1 / tell "
            + EIGHT + "w0,1; = F45 / fault = 1 / tell " + EIGHT + "8 = F45 / fault = 1 / tell " + EIGHT
            + ", = F45 / fault = 1 / tell " + EIGHT + "; = F45 / fault = 1");
    }

    private static void firstAndLeast() {
        runs.holds(7, "FAULTS, the first TOKEN that has one (its first byte)", """
            tell w8,0;x = F1 / fault = 2 / tell w0,0;x8 = F3 / fault = 2 / tell x8,0; = F0 / fault = 1
            tell w0,1;r8,0;x = F6 / fault = 2 / tell w0,1;x8,0; = F5 / fault = 1 / tell w0,1;r0,0x = F8 / fault = 2
            tell w10x = F1 / fault = 2 / tell w0,1;r0,1;r00,10; = F14 / fault = 2
            """);
        runs.holds(7, "of one TOKEN the least", """
            tell w999,1; = F1 / fault = 1 / tell 99 = F0 / fault = 1 / tell w0,1;99 = F5 / fault = 1
            tell w0,1;r0,100; = F8 / fault = 1 / tell w0,1;r0,1;r0,1;r0,1;99 = F20 / fault = 1
            """);
    }

    private static void inPlace() {
        runs.holds(7, "A CIRCLE that is read stands in place of the one before (none at first): TICK 0, all LIVE, "
            + "nobody SAW a wink, it is not FOUND OUT; no ACT can be undone.", """
            tell w0,1;s1,1;s0,1;s0,1; = 3 / ticks 1 / ticks 1 = 2
            count 3 = 2 / stand 3 = 1 / stand 6 = 2 / count 5 = 1 / count 6 = 2
            tell w0,1;s1,1;s0,1;s0,1; = 3
            count 3 = 0 / stand 3 = 0 / stand 4 = 7 / stand 5 = 0 / stand 6 = 0 / count 5 = 0 / count 6 = 0
            player 1 0 = 0 / player 1 1 = 0 / player 1 3 = 0 / player 2 4 = 0 / count 4 = 0 / undo = STATE
            ticks 1 / stand 5 = 2 / player 1 3 = 1
            tell w1,3;h0,1;d0,1;s0,2;r0,1; = 4 / stand 4 = 15 / stand 5 = 0 / player 1 3 = 0 / stand 1 = 1 / stand 2 = 3
            undo = STATE
            """);
        runs.holds(7, "The tape, empty then, is read: how many PLAYERS there are.",
            "tell " + EIGHT + " = 8 / count 7 = 0 / stand 0 = 8 / tell " + THREE
            + " = 3 / count 7 = 0 / stand 0 = 3 / player 3 0 = BAD / circle = F0 / stand 0 = 3 / feed 'w = 1");
        runs.holds(7, "stands in place of the one before", "tell " + EIGHT + " = 8 / image 0 / ticks 3 / row 0 0 1 / ask 0 0 / tell "
            + THREE + " = 3 / count 0 = 1 / trace 0 = 11 / restore 0 = 1 / stand 0 = 8");
    }

    private static void allStaysByFault() {
        runs.holds(7, "-1000100 less the place of a FAULT: all stays.", BUSY + """
            type w3,9;b0,9;b0,9;b0,9;b0,9;b0,0; / count 7 = 30 / circle = F28 / fault = 2 / count 7 = 0
            stand 0 = 4 / stand 1 = 0 / stand 2 = 1 / stand 3 = 1 / stand 6 = 2 / count 3 = 2 / count 5 = 2 / count 6 = 3
            kind 0 = 2 / player 0 2 = 1 / player 3 1 = 1 / player 3 2 = 4 / trace 0 = 12 / status = 1 / count 0 = 1
            undo = 2 / player 3 1 = 0 / undo = 1 / count 3 = 1 / restore 1 = 1 / player 3 1 = 1
            """);
        // The tape is read, and empty then; its fault stands: so the fault of the setup is the same, at the end.
        runs.refused(7, "all stays", BUSY, "circle = F0");
        runs.refused(7, "No CIRCLE.", "type x / circle = F0 / row 0 0 1", "circle = F0");
    }

    private static void fault() {
        runs.holds(8, "The number of the latest FAULT; 0 before one.", "fault = 0 / tell " + THREE + " = 3 / fault = 0 / "
            + "tell w8,1; = F1 / fault = 2 / fault = 2 / tell " + THREE + " = 3 / fault = 2 / tell x = F0 / fault = 1 / "
            + "tell " + EIGHT + "r = F45 / fault = 3 / feed 256 = BAD / ticks 0 = BAD / fault = 3 / ticks 1 / undo / fault = 3");
    }

    private static void undo() {
        runs.holds(9, "The latest ACT is undone: how many can be undone yet. STATE: none.", """
            undo = STATE / tell w0,2;s1,2;s0,2;s0,1;r0,1; = 4 / undo = STATE
            ticks 1 / undo = 0 / undo = STATE / ticks 2 / undo = 1 / count 3 = 1 / undo = 0 / count 3 = 0 / undo = STATE
            """);
        runs.holds(9, "ACTS (24 at most are kept, of more the oldest is forgotten", """
            tell w0,9;s1,1;s0,1;s1,1; = 3
            ticks 23 / count 6 = 23 / ticks 1 / count 6 = 24 / undo = 23 / ticks 1 / count 6 = 24
            ticks 1 / count 6 = 24 / turnHead 2 0 = 1 / count 6 = 24 / count 3 = 25
            undo = 23 / player 2 1 = 1 / undo = 22 / count 3 = 24 / 22 * undo / count 6 = 0 / count 3 = 2 / stand 6 = 2
            undo = STATE / count 3 = 2
            """);
        runs.holds(9, "of more the oldest is forgotten", """
            tell w0,9;s1,1;s0,1;s1,1; = 3
            ticks 24 / ticks 24 / ticks 24 / count 6 = 24 / 24 * undo / count 3 = 48 / undo = STATE
            ticks 5 / count 6 = 5 / ticks 20 / count 6 = 24 / 24 * undo / count 3 = 49 / undo = STATE
            """);
        runs.holds(9, "each can be undone, the latest first", """
            tell w0,2;s1,2;s0,2;s0,1;r0,1; = 4
            ticks 1 = 0 / turnHead 3 2 = 1 / proof 1 = 2 / role 2 = 0 / ticks 2 = 2 / rise 1 = 0 / count 6 = 7
            undo = 6 / stand 6 = 2 / player 1 1 = NONE / player 1 0 = 2
            undo = 5 / stand 5 = 2 / player 1 3 = 1 / player 1 1 = 0 / count 3 = 2
            undo = 4 / player 1 3 = 2 / count 3 = 1 / player 3 1 = 2
            undo = 3 / stand 1 = 0 / count 5 = 1 / player 2 4 = 1
            undo = 2 / stand 2 = 2 / undo = 1 / player 3 1 = 1 / undo = 0 / stand 4 = 15 / count 3 = 0 / player 3 1 = 0
            undo = STATE
            """);
        runs.holds(9, "another one is the MURDERER (nobody SAW any more, it is not FOUND OUT)", """
            tell w0,1;s1,1;s0,1;s0,1; = 3 / ticks 1 / stand 3 = 1 / role 1 = 0 / stand 3 = 0 / count 5 = 0
            undo = 1 / stand 3 = 1 / count 5 = 1 / stand 1 = 0
            """);
    }

    private static void undoRefused() {
        runs.refused(9, "STATE: none.", "", "undo = STATE");
        runs.refused(9, "STATE: none.", BUSY + "3 * undo", "undo = STATE");
        runs.refused(9, "no ACT can be undone", BUSY + "restore 1", "undo = STATE");
        runs.refused(9, "no ACT can be undone", BUSY + "tell " + THREE, "undo = STATE");
    }
}
