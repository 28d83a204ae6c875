/** Promises 33 to 36, and part 4 of the terms: each sentence that names an edge. */
public final class AskEdgesTest {
    /** A rover, a starer, one that roves back, a shy one and a dozer; nobody winks. */
    private static final String FIVE = "tell w1,9;r3,3;s4,4;b1,5;h0,6;d0,7; = 5\n";
    private static final String BUSY = FIVE + """
        image 0 / ticks 3 / image 1 / turnHead 4 2 / ask 3 1 = 97 / type x / circle = F0 / type w0
        row 0 0 3 / set 5 0 0 = NULL
        """;
    private static final String NO_CIRCLE = "row 0 0 1 / type w\n";

    private static final Runs runs = new Runs("AskEdgesTest");

    public static void main(String[] args) {
        kind();
        as();
        asRefused();
        sizes();
        marks();
        whatItSaw();
        askRefused();
        trace();
        runs.cover(33, 36);
        runs.end();
    }

    private static void kind() {
        runs.leavesAll(33, "The KIND of a PLAYER, as told (1 to 5).", BUSY, "kind 0 = 1 / kind 1 = 2 / kind 2 = 3 / kind 3 = 4 / kind 4 = 5");
        runs.refused(33, "as told (1 to 5). BAD.", BUSY, "kind -1 = BAD / kind 5 = BAD / kind min = BAD / kind max = BAD");
        runs.refused(33, "as told (1 to 5). BAD.", NO_CIRCLE, "kind 0 = BAD / kind -1 = BAD");
        runs.holds(33, "as told (1 to 5)", "tell w0,1;d0,1;d0,1;d0,1;d0,1;d0,1;d0,1;d0,1;r0,1; = 8 / kind 7 = 1 / kind 0 = 5 / kind 8 = BAD");
    }

    private static void as() {
        runs.holds(34, "A PLAYER is taken as one of a KIND (0 .. 5): its number.", FIVE + """
            as 0 0 = 0 / as 1 0 = 1 / as 2 0 = 2 / as 3 0 = 3 / as 4 0 = 4 / as 4 5 = 4 / as 4 6 = BAD / as 4 -1 = BAD
            """);
        runs.holds(34, "0 PLAYER; 1 ROVER, a PLAYER; 2 STARER, a ROVER; 3 BACKER (roves back), a ROVER; 4 SHY, a PLAYER; "
            + "5 DOZER, a SHY one.", FIVE + """
            as 0 1 = 0 / as 1 1 = 1 / as 2 1 = 2 / as 3 1 = KIND / as 4 1 = KIND
            as 0 2 = KIND / as 1 2 = 1 / as 2 2 = KIND / as 3 2 = KIND / as 4 2 = KIND
            as 0 3 = KIND / as 1 3 = KIND / as 2 3 = 2 / as 3 3 = KIND / as 4 3 = KIND
            as 0 4 = KIND / as 1 4 = KIND / as 2 4 = KIND / as 3 4 = 3 / as 4 4 = 4
            as 0 5 = KIND / as 1 5 = KIND / as 2 5 = KIND / as 3 5 = KIND / as 4 5 = 4
            """);
    }

    private static void asRefused() {
        runs.refused(34, "BAD; KIND: it is no such one.", BUSY, """
            as -1 0 = BAD / as 5 0 = BAD / as min 0 = BAD / as max 0 = BAD
            as 0 -1 = BAD / as 0 6 = BAD / as 0 min = BAD / as 0 max = BAD
            as 0 2 = KIND / as 1 3 = KIND / as 3 1 = KIND / as 3 5 = KIND
            """);
        runs.refused(34, "BAD; KIND", BUSY + "as 0 0 = 0", "as 5 2 = BAD / as 0 6 = BAD / as 0 5 = KIND");
        runs.refused(34, "there is no such thing", NO_CIRCLE, "as 0 0 = BAD / as 0 6 = BAD");
    }

    private static void sizes() {
        runs.holds(35, "0 SIZE: 10 lent to all PLAYERS: SLOW.", FIVE + """
            ask 0 0 = 3 / trace 0 = 11 / trace 1 = 10 / trace 2 = 21 / trace 3 = 20 / trace 4 = NONE
            """);
        runs.holds(35, "12 of STARERS: 0 less what 11 gives.", FIVE + """
            ask 1 0 = -6 / trace 0 = 12 / trace 1 = 11 / trace 2 = 10 / trace 3 = 24 / trace 4 = 21 / trace 5 = 20 / trace 6 = NONE
            """);
        runs.holds(35, "else that of the nearest KIND that it is, too, else the one that is lent", FIVE + """
            ask 2 0 = -993 / trace 0 = 11 / trace 1 = 10 / trace 2 = 22 / trace 3 = 21 / trace 4 = 20 / trace 5 = NONE
            """);
        runs.holds(35, "13 of SHY ones: what 10 gives, less 100. 14 of DOZERS: what 13 gives, twice.", FIVE + """
            ask 3 0 = -94 / trace 0 = 13 / trace 1 = 10 / trace 2 = NONE
            ask 4 0 = -186 / trace 0 = 14 / trace 1 = 13 / trace 2 = 10 / trace 3 = NONE
            """);
    }

    private static void marks() {
        runs.holds(35, "1 MARK: 20 lent to all PLAYERS: the number.", FIVE + """
            ask 0 1 = 0 / trace 0 = 21 / trace 1 = 20 / trace 2 = NONE
            """);
        runs.holds(35, "24 of STARERS: what 21 gives, twice.", FIVE + "ask 1 1 = 2 / trace 0 = 24 / trace 1 = 21 / trace 2 = 20 / trace 3 = NONE");
        runs.holds(35, "22 of BACKERS: what 21 gives, less 1000.", FIVE + "ask 2 1 = -998 / trace 0 = 22 / trace 1 = 21 / trace 2 = 20 / trace 3 = NONE");
        runs.holds(35, "23 of SHY ones: what 20 gives, less SIZE.", FIVE + """
            ask 3 1 = 97 / trace 0 = 23 / trace 1 = 20 / trace 2 = 13 / trace 3 = 10 / trace 4 = NONE
            ask 4 1 = 190 / trace 0 = 23 / trace 1 = 20 / trace 2 = 14 / trace 3 = 13 / trace 4 = 10 / trace 5 = NONE
            """);
    }

    private static void whatItSaw() {
        runs.holds(35, "21 of ROVERS: what 20 gives, and what it SAW.", """
            tell w0,9;s1,9;s0,9;s0,9;r4,9;b1,9; = 5 / ticks 1 / player 2 4 = 1 / player 3 4 = 1 / player 4 4 = 1
            ask 2 1 = 6 / ask 2 0 = -15 / ask 3 1 = 4 / ask 3 0 = 13 / ask 4 1 = -995 / ask 4 0 = -986
            """);
        runs.holds(35, "23 of SHY ones: what 20 gives", "tell w1,9;s1,9;s0,9;s1,9;h0,9; = 4 / ask 3 1 = 94 / ask 3 0 = -91");
        runs.holds(35, "the first 16", "tell w0,1;s1,9;s0,1;s0,1;s0,1;s0,1;s0,1;s0,1;s0,9; = 8 / ask 7 0 = -23 / trace 5 = 20 / trace 6 = NONE / trace 15 = NONE / trace 16 = NONE");
    }

    private static void askRefused() {
        runs.refused(35, "An ASK (0, 1) of a PLAYER. BAD.", BUSY, """
            ask -1 0 = BAD / ask 5 0 = BAD / ask min 0 = BAD / ask max 1 = BAD
            ask 0 -1 = BAD / ask 0 2 = BAD / ask 0 min = BAD / ask 4 max = BAD
            """);
        runs.refused(35, "there is no such thing", NO_CIRCLE, "ask 0 0 = BAD / ask 0 2 = BAD");
    }

    private static void trace() {
        runs.holds(35, "THE TRACE is empty ahead of it.", FIVE + """
            ask 1 0 = -6 / trace 5 = 20 / ask 3 0 = -94 / trace 0 = 13 / trace 1 = 10 / trace 2 = NONE / trace 5 = NONE
            ask 0 2 = BAD / trace 0 = 13 / ask 5 0 = BAD / trace 1 = 10
            """);
        runs.leavesAll(36, "Number i of THE TRACE; NONE.", BUSY, """
            trace 0 = 23 / trace 3 = 10 / trace 4 = NONE / trace -1 = NONE / trace min = NONE / trace max = NONE / trace 16 = NONE
            """);
        runs.holds(36, "Number i of THE TRACE; NONE.", "trace 0 = NONE / trace -1 = NONE / trace 15 = NONE\n" + FIVE + """
            trace 0 = NONE / ask 3 0 / trace 0 = 13 / trace 1 = 10 / trace 2 = NONE / trace -1 = NONE / ticks 1 / trace 0 = 13
            """ + FIVE + "trace 0 = 13");
    }
}
