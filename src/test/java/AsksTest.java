/** Promises 33 to 36: kinds, asks and the trace. */
public final class AsksTest {
    private static final int NONE = WinkCircle.NONE, BAD = WinkCircle.BAD, KIND = -1000013;

    private static final Check check = new Check("AsksTest");

    public static void main(String[] args) {
        tellsKinds();
        takesAsKinds();
        asksSizes();
        asksMarks();
        countsWhatWasSeen();
        refusesAsks();
        check.end();
    }

    /** A rover, a starer, one that roves back, a shy one and a dozer; nobody winks. */
    private static WinkCircle five() {
        return Check.of("w1,9;r3,3;s4,4;b1,5;h0,6;d0,7;");
    }

    private static void tellsKinds() {
        WinkCircle x = five();
        for (int p = 0; p < 5; p++) {
            check.due("kind of " + p, x.kind(p), p + 1);
        }
        check.due("kind of -1", x.kind(-1), BAD);
        check.due("kind of 5", x.kind(5), BAD);
        check.due("no circle", new WinkCircle().kind(0), BAD);
    }

    private static void takesAsKinds() {
        WinkCircle x = five();
        int[] taken = {0b000011, 0b000111, 0b001011, 0b010001, 0b110001};
        for (int p = 0; p < 5; p++) {
            for (int kind = 0; kind <= 5; kind++) {
                boolean is = (taken[p] >> kind & 1) == 1;
                check.due(p + " as " + kind, x.as(p, kind), is ? p : KIND);
                check.due("status of it", x.status(), is ? 0 : 3);
            }
        }
        check.due("as -1", x.as(0, -1), BAD);
        check.due("as 6", x.as(0, 6), BAD);
        check.due("-1 as", x.as(-1, 0), BAD);
        check.due("5 as", x.as(5, 0), BAD);
        check.due("no circle", new WinkCircle().as(0, 0), BAD);
    }

    private static void asked(WinkCircle x, int one, int what, int answer, int... trace) {
        String call = "ask(" + one + ", " + what + ")";
        check.due(call, x.ask(one, what), answer);
        for (int i = 0; i < trace.length; i++) {
            check.due(call + ", trace " + i, x.trace(i), trace[i]);
        }
        check.due(call + ", the end of the trace", x.trace(trace.length), NONE);
    }

    private static void asksSizes() {
        WinkCircle x = five();
        check.due("no ask yet", x.trace(0), NONE);
        asked(x, 0, 0, 3, 11, 10, 21, 20);
        asked(x, 1, 0, -(4 + 2), 12, 11, 10, 24, 21, 20);
        asked(x, 2, 0, 5 + 2 - 1000, 11, 10, 22, 21, 20);
        asked(x, 3, 0, 6 - 100, 13, 10);
        asked(x, 4, 0, (7 - 100) * 2, 14, 13, 10);
    }

    private static void asksMarks() {
        WinkCircle x = five();
        asked(x, 0, 1, 0, 21, 20);
        asked(x, 1, 1, 2, 24, 21, 20);
        asked(x, 2, 1, 2 - 1000, 22, 21, 20);
        asked(x, 3, 1, 3 - (6 - 100), 23, 20, 13, 10);
        asked(x, 4, 1, 4 - (7 - 100) * 2, 23, 20, 14, 13, 10);
    }

    private static void countsWhatWasSeen() {
        WinkCircle x = Check.of("w0,9;s1,9;s0,9;s0,9;r4,9;b4,9;");
        x.ticks(1);
        check.due("2 saw one", x.player(2, 4), 1);
        check.due("3 saw one", x.player(3, 4), 1);
        check.due("4 saw none", x.player(4, 4), 0);
        asked(x, 2, 1, (2 + 1) * 2, 24, 21, 20);
        asked(x, 2, 0, -(9 + 6), 12, 11, 10, 24, 21, 20);
        asked(x, 3, 1, 3 + 1, 21, 20);
        asked(x, 3, 0, 9 + 4, 11, 10, 21, 20);
        asked(x, 4, 1, 4 - 1000, 22, 21, 20);
        x = Check.of("w0,9;s1,9;s0,9;b1,9;");
        x.ticks(1);
        check.due("2 saw one", x.player(2, 4), 1);
        asked(x, 2, 1, 2 + 1 - 1000, 22, 21, 20);
        asked(x, 2, 0, 9 + 2 + 1 - 1000, 11, 10, 22, 21, 20);
        x = Check.of("w1,9;s1,9;s0,9;h2,9;s1,9;");
        x.turnHead(2, 1);
        x.ticks(1);
        check.due("3 saw one", x.player(3, 4), 1);
        asked(x, 2, 1, 2 - (9 - 100), 23, 20, 13, 10);
    }

    private static void refusesAsks() {
        WinkCircle x = five();
        asked(x, 3, 0, -94, 13, 10);
        check.due("ask -1", x.ask(0, -1), BAD);
        check.due("ask 2", x.ask(0, 2), BAD);
        check.due("-1 is asked", x.ask(-1, 0), BAD);
        check.due("5 is asked", x.ask(5, 0), BAD);
        check.due("the trace stays by that", x.trace(0), 13);
        check.due("trace -1", x.trace(-1), NONE);
        check.due("trace 15", x.trace(15), NONE);
        check.due("trace 16", x.trace(16), NONE);
        check.due("trace, the greatest", x.trace(Integer.MAX_VALUE), NONE);
        check.due("trace, the least", x.trace(Integer.MIN_VALUE), NONE);
        check.due("no circle", new WinkCircle().ask(0, 0), BAD);
    }
}
