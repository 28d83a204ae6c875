/** Promises 2 to 5 and 38, and part 1 of the terms as to rows: each sentence that names an edge. */
public final class RowEdgesTest {
    /** Player 1 dies behind two ticks, or later, if it were slower; so an item 0 fits all slownesses for one tick. */
    private static final String QUICK = "tell w0,1;s1,1;s0,1;s0,1; = 3\n";
    /** Rows of each lane, one of none, and all else that a call could spoil. */
    private static final String BUSY = QUICK + """
        ticks 1 / image 0 / turnHead 2 1 / image 1 / ask 1 0 / type x / circle / type w0
        row 0 0 3 / set 0 0 1 / set 0 1 2 / row 1 1 3 / set 1 0 1 / row 2 2 3 / set 2 2 1 / row 3 0 0 / row 7 0 2
        """;
    /** The same, with a finding by the latest call. */
    private static final String FOUND = BUSY + "copy 0 0 1 0 1 = STORE\n";

    private static final Runs runs = new Runs("RowEdgesTest");

    public static void main(String[] args) {
        rowsAtFirst();
        row();
        rowRefused();
        set();
        setRefused();
        copy();
        copyRefused();
        drop();
        status();
        runs.holds(38, "What is refused, or found, changes nothing but status().", BUSY + """
            status = 0 / set 6 0 0 = NULL / status = 1 / set 8 0 0 = BAD / status = 1
            """);
        runs.cover(2, 5);
        runs.cover(38, 38);
        runs.end();
    }

    private static void rowsAtFirst() {
        runs.holds(2, "ROWS 0 .. 7 are missing (at first)", """
            count 0 = 0
            drop 0 = NULL / drop 1 = NULL / drop 2 = NULL / drop 3 = NULL
            drop 4 = NULL / drop 5 = NULL / drop 6 = NULL / drop 7 = NULL
            """);
        runs.holds(2, "have a LANE (0 bytes, 1 shorts, 2 ints)", """
            row 0 0 1 = 1 / set 0 0 max = -1
            row 0 1 1 = 1 / set 0 0 32767 = 32767 / set 0 0 max = -1
            row 0 2 1 = 1 / set 0 0 max = 2147483647
            """);
        runs.holds(2, "0 to 40 ITEMS", """
            row 0 0 0 = 0 / set 0 0 0 = PLACE / drop 0 = 0
            row 0 0 1 = 1 / set 0 0 0 = 0 / set 0 1 0 = PLACE / drop 0 = 1
            row 0 0 40 = 40 / set 0 39 0 = 0 / set 0 40 0 = PLACE / drop 0 = 40
            row 0 0 41 = BAD / drop 0 = NULL
            """);
        runs.holds(2, "0 at first", QUICK + """
            row 0 0 40 / who 1 3 0 0 1 = 1022 / who 1 3 0 39 1 = 1022 / who 1 3 0 20 12 = 0
            set 0 0 7 / set 0 39 7 / who 1 3 0 0 1 = 0 / who 1 3 0 39 1 = 0
            row 0 0 40 / who 1 3 0 0 1 = 1022 / who 1 3 0 39 1 = 1022
            set 0 0 7 / set 0 39 7 / drop 0
            row 0 2 40 / who 1 3 0 0 1 = 1022 / who 1 3 0 39 1 = 1022
            set 0 39 7 / row 0 2 1 / row 0 2 40 / who 1 3 0 39 1 = 1022
            """);
    }

    private static void row() {
        runs.holds(2, "A ROW of a LANE with n ITEMS, in place of what is there: n.", """
            row 0 0 40 = 40 / row 7 2 40 = 40 / count 0 = 2
            row 0 2 1 = 1 / count 0 = 2 / set 0 1 0 = PLACE / set 0 0 300 = 300
            row 0 0 2 = 2 / set 0 0 300 = 44 / set 0 1 0 = 0 / set 0 2 0 = PLACE
            row 0 1 0 = 0 / count 0 = 2 / set 0 0 0 = PLACE / set 7 39 5 = 5
            """);
        runs.holds(37, "0 ROWS", """
            row 0 0 0 / count 0 = 1 / row 1 0 0 / row 2 0 0 / row 3 0 0 / row 4 0 0 / row 5 0 0 / row 6 0 0
            count 0 = 7 / row 7 0 0 / count 0 = 8 / row 7 0 40 / count 0 = 8 / row 8 0 0 = BAD / count 0 = 8
            drop 0 / count 0 = 7 / drop 0 / count 0 = 7
            """);
    }

    private static void rowRefused() {
        for (String setup : new String[] {"", BUSY, FOUND}) {
            runs.refused(2, "BAD: ROW, LANE, n above 40", setup, """
                row -1 0 1 = BAD / row 8 0 1 = BAD / row min 0 1 = BAD / row max 0 1 = BAD
                row 0 -1 1 = BAD / row 0 3 1 = BAD / row 0 min 1 = BAD / row 0 max 1 = BAD
                row 0 0 41 = BAD / row 0 0 max = BAD / row 0 2 41 = BAD / row 5 1 41 = BAD
                """);
            runs.refused(2, "n above 40; SIZE", setup, """
                row 0 0 -1 = SIZE / row 0 0 min = SIZE / row 7 2 -1 = SIZE / row 5 1 -1 = SIZE
                """);
            runs.refused(2, "BAD (a number is not as told; there is no such thing), STATE (as told), FULL (as told), "
                + "then FINDINGS", setup, """
                row -1 0 -1 = BAD / row 8 0 -1 = BAD / row 0 -1 -1 = BAD / row 0 3 -1 = BAD / row 8 3 41 = BAD
                """);
        }
    }

    private static void set() {
        runs.holds(3, "ITEM i becomes v, its lowest bits, as many as the LANE has: what it is then.", """
            row 0 0 40 / row 1 1 40 / row 2 2 40
            set 0 0 127 = 127 / set 0 0 128 = -128 / set 0 0 255 = -1 / set 0 0 256 = 0 / set 0 0 257 = 1
            set 0 39 -1 = -1 / set 0 39 -128 = -128 / set 0 39 -129 = 127 / set 0 39 -256 = 0
            set 0 0 max = -1 / set 0 0 min = 0
            set 1 0 32767 = 32767 / set 1 0 32768 = -32768 / set 1 0 65535 = -1 / set 1 0 65536 = 0
            set 1 39 -32768 = -32768 / set 1 39 -32769 = 32767 / set 1 39 -65536 = 0 / set 1 0 65537 = 1
            set 1 0 max = -1 / set 1 0 min = 0 / set 1 0 128 = 128 / set 1 0 -129 = -129
            set 2 0 max = 2147483647 / set 2 39 min = -2147483648 / set 2 0 65536 = 65536 / set 2 0 -1 = -1
            """);
        runs.holds(3, "what it is then", QUICK + """
            row 0 0 2 / set 0 0 256 = 0 / set 0 1 257 = 1 / who 1 3 0 0 2 = 2
            row 1 1 2 / set 1 0 65536 = 0 / set 1 1 65537 = 1 / who 1 3 1 0 2 = 2
            row 2 1 2 / set 2 0 256 = 256 / who 1 3 2 0 1 = 0
            row 3 2 2 / set 3 0 65536 = 65536 / who 1 3 3 0 1 = 0
            """);
    }

    private static void setRefused() {
        for (String setup : new String[] {BUSY, FOUND}) {
            runs.refused(3, "BAD: ROW; NULL; PLACE.", setup, """
                set -1 0 1 = BAD / set 8 0 1 = BAD / set min 0 1 = BAD / set max 0 1 = BAD
                set 4 0 1 = NULL / set 6 0 1 = NULL
                set 0 -1 5 = PLACE / set 0 3 5 = PLACE / set 0 min 5 = PLACE / set 0 max 5 = PLACE
                set 1 3 5 = PLACE / set 2 -1 5 = PLACE / set 3 0 5 = PLACE / set 3 -1 5 = PLACE / set 7 2 5 = PLACE
                """);
            runs.refused(3, "of several the first in time", setup, """
                set 8 -1 1 = BAD / set -1 40 1 = BAD / set 4 -1 1 = NULL / set 6 40 1 = NULL
                """);
        }
    }

    private static void copy() {
        runs.holds(4, "n ITEMS of a from i on come to b from j on, as they were ahead: n.", QUICK + """
            row 0 0 4 / set 0 1 1 / copy 0 0 0 1 3 = 3 / who 1 3 0 1 2 = 2 / who 1 3 0 3 1 = 1022
            row 1 1 4 / set 1 0 9 / set 1 2 1 / set 1 3 1 / copy 1 1 1 0 3 = 3 / who 1 3 1 0 4 = 2
            row 2 2 3 / set 2 2 1 / row 3 2 5 / set 3 0 9 / set 3 1 9
            copy 2 0 3 2 3 = 3 / who 1 3 3 2 3 = 4 / who 1 3 3 1 1 = 0 / who 1 3 2 0 3 = 4
            """);
        runs.holds(4, "n ITEMS of a from i on come to b", QUICK + """
            row 0 0 40 / row 1 0 40 / set 0 39 9 / set 1 0 9
            copy 0 0 1 0 40 = 40 / who 1 3 1 0 1 = 1022 / who 1 3 1 39 1 = 0
            row 1 0 40 / copy 0 39 1 0 1 = 1 / who 1 3 1 0 1 = 0 / who 1 3 1 1 1 = 1022
            row 1 0 40 / copy 0 39 1 39 1 = 1 / who 1 3 1 39 1 = 0 / who 1 3 1 38 1 = 1022
            row 1 0 40 / copy 0 0 0 0 40 = 40 / who 1 3 0 39 1 = 0 / who 1 3 0 38 1 = 1022
            """);
        runs.holds(4, "beyond an end", """
            row 0 0 3 / row 1 0 2 / row 2 0 0
            copy 0 0 1 0 0 = 0 / copy 0 3 1 2 0 = 0 / copy 0 4 1 0 0 = PLACE / copy 0 0 1 3 0 = PLACE
            copy 0 0 1 0 2 = 2 / copy 0 1 1 0 2 = 2 / copy 0 2 1 0 2 = PLACE / copy 0 0 1 1 2 = PLACE
            copy 0 0 1 0 3 = PLACE / copy 1 0 0 0 3 = PLACE / copy 1 0 0 1 2 = 2 / copy 1 0 0 2 2 = PLACE
            copy 2 0 2 0 0 = 0 / copy 2 0 0 3 0 = 0 / copy 2 1 0 0 0 = PLACE / copy 2 0 0 0 1 = PLACE
            copy 0 0 2 0 1 = PLACE / copy 0 0 0 0 3 = 3 / copy 0 0 0 1 3 = PLACE / copy 0 1 0 0 3 = PLACE
            """);
    }

    private static void copyRefused() {
        for (String setup : new String[] {BUSY, FOUND}) {
            runs.refused(4, "BAD: ROWS; NULL; STORE; PLACE", setup, """
                copy -1 0 0 0 1 = BAD / copy 8 0 0 0 1 = BAD / copy 0 0 -1 0 1 = BAD / copy 0 0 8 0 1 = BAD
                copy min 0 0 0 1 = BAD / copy 0 0 max 0 1 = BAD
                copy 4 0 0 0 1 = NULL / copy 0 0 4 0 1 = NULL / copy 4 0 5 0 0 = NULL / copy 4 0 4 0 0 = NULL
                copy 0 0 1 0 1 = STORE / copy 1 0 2 0 0 = STORE / copy 2 0 0 0 1 = STORE / copy 3 0 1 0 0 = STORE
                """);
            runs.refused(4, "PLACE (i, j, n below 0, or beyond an end)", setup, """
                copy 0 -1 0 0 1 = PLACE / copy 0 0 0 -1 1 = PLACE / copy 0 0 7 0 -1 = PLACE / copy 0 1 0 1 -1 = PLACE
                copy 0 min 7 0 1 = PLACE / copy 0 0 7 min 1 = PLACE / copy 0 0 7 0 min = PLACE
                copy 0 3 7 0 1 = PLACE / copy 0 0 7 2 1 = PLACE / copy 0 0 7 0 3 = PLACE / copy 7 0 0 0 3 = PLACE
                copy 0 max 7 0 1 = PLACE / copy 0 0 7 max 1 = PLACE / copy 0 0 7 0 max = PLACE
                copy 0 max 7 max max = PLACE / copy 0 1 7 1 max = PLACE / copy 0 max 7 max min = PLACE
                copy 0 -1 7 0 0 = PLACE / copy 0 0 7 -1 0 = PLACE / copy 0 4 7 0 -1 = PLACE / copy 0 -1 7 -1 2 = PLACE
                """);
            runs.refused(4, "Refusals are answers, the first of these that fits", setup, """
                copy 8 0 4 0 1 = BAD / copy 4 0 8 0 1 = BAD / copy 8 -1 1 9 -1 = BAD
                copy 4 -1 0 0 1 = NULL / copy 0 0 4 -1 1 = NULL / copy 0 0 4 0 -1 = NULL
                copy 0 -1 1 0 1 = STORE / copy 0 0 1 9 1 = STORE / copy 0 0 2 0 -1 = STORE / copy 0 max 2 0 max = STORE
                """);
        }
    }

    private static void drop() {
        runs.holds(5, "A ROW is missing from now on: how many ITEMS it had.", """
            row 0 0 40 / row 7 2 0 / row 3 1 1 / count 0 = 3
            drop 0 = 40 / count 0 = 2 / set 0 0 0 = NULL / drop 0 = NULL / copy 0 0 3 0 0 = NULL
            drop 7 = 0 / drop 7 = NULL / drop 3 = 1 / count 0 = 0
            row 0 1 2 = 2 / drop 0 = 2
            """);
        for (String setup : new String[] {BUSY, FOUND}) {
            runs.refused(5, "how many ITEMS it had. BAD; NULL.", setup, """
                drop -1 = BAD / drop 8 = BAD / drop min = BAD / drop max = BAD
                drop 4 = NULL / drop 5 = NULL / drop 6 = NULL
                """);
        }
    }

    private static void status() {
        runs.holds(38, "the number of its FINDING", QUICK + """
            row 0 0 1 / row 1 1 1
            set 2 0 0 = NULL / status = 1 / set 0 1 0 = PLACE / status = 2 / as 0 1 = 0 / as 0 3 = KIND / status = 3
            row 2 0 -1 = SIZE / status = 4 / copy 0 0 1 0 1 = STORE / status = 5 / status = 5
            who 0 0 2 0 1 = NULL / status = 1 / who 0 0 0 1 1 = PLACE / status = 2
            copy 0 0 2 0 1 = NULL / status = 1 / copy 0 0 0 0 2 = PLACE / status = 2 / drop 2 = NULL / status = 1
            """);
        runs.holds(38, "0: it had none, or there was none.", "status = 0\n" + QUICK + """
            status = 0 / row 0 0 2 = 2 / status = 0
            drop 1 = NULL / row 1 0 1 = 1 / status = 0 / drop 2 = NULL / set 0 0 1 = 1 / status = 0
            drop 2 = NULL / copy 0 0 1 0 1 = 1 / status = 0 / drop 2 = NULL / who 0 0 0 0 1 = 0 / status = 0
            drop 2 = NULL / as 2 2 = 2 / status = 0 / drop 2 = NULL / status = 1 / drop 1 = 1 / status = 0
            """);
        runs.holds(38, "Of the latest call with a ROW, or as(), that was not BAD, STATE, FULL", QUICK + """
            ticks 2 = 2 / row 0 0 1 / set 0 1 0 = PLACE
            row 8 0 1 = BAD / status = 2 / set 8 0 0 = BAD / status = 2 / copy 8 0 0 0 0 = BAD / status = 2
            drop 8 = BAD / status = 2 / who 0 4 0 0 1 = BAD / status = 2 / who 1 2 0 0 1 = STATE / status = 2
            as 0 6 = BAD / status = 2 / as 3 0 = BAD / status = 2
            ticks 25 = BAD / undo = 1 / turnHead 0 1 = STATE / status = 2 / ticks 1 = 2 / status = 2
            kind 0 = 2 / ask 0 0 = -1 / trace 99 = NONE / count 8 = BAD / feed 'x = 1 / circle = F0 / status = 2
            """ + QUICK + "status = 2 / image 0 / restore 0 / status = 2");
    }
}
