/** Promises 1 and 6 to 9: a new object, the tape, what is read from it, and undoing. */
public final class TextsTest {
    private static final int NONE = WinkCircle.NONE, BAD = WinkCircle.BAD;
    private static final int STATE = WinkCircle.STATE, FULL = WinkCircle.FULL;
    private static final String THREE = "w0,1;r0,1;r0,1;r0,1;";

    private static final Check check = new Check("TextsTest");

    public static void main(String[] args) {
        beginsEmpty();
        feeds();
        reads();
        findsFaults();
        keepsAllByFault();
        forgetsTextsReadBefore();
        standsInPlace();
        undoes();
        check.end();
    }

    private static void beginsEmpty() {
        WinkCircle x = new WinkCircle();
        for (int what = 0; what < 8; what++) {
            check.due("count " + what, x.count(what), 0);
        }
        check.due("count -1", x.count(-1), BAD);
        check.due("count 8", x.count(8), BAD);
        check.due("no circle", x.stand(0), STATE);
        check.due("no player", x.player(0, 0), BAD);
        check.due("no fault", x.fault(), 0);
        check.due("no finding", x.status(), 0);
        check.due("nothing to undo", x.undo(), STATE);
        check.due("no image", x.restore(0), STATE);
        check.due("no trace", x.trace(0), NONE);
    }

    private static void feeds() {
        WinkCircle x = new WinkCircle();
        check.due("feed -1", x.feed(-1), BAD);
        check.due("feed 256", x.feed(256), BAD);
        check.due("feed 0", x.feed(0), 1);
        check.due("feed 255", x.feed(255), 2);
        for (int i = 3; i <= 100; i++) {
            check.due("feed, byte " + i, x.feed('r'), i);
        }
        check.due("bytes on the tape", x.count(7), 100);
        check.due("the tape is full", x.feed('r'), FULL);
        check.due("BAD ahead of FULL", x.feed(-1), BAD);
        check.due("read", x.circle(), -1000100);
        check.due("the tape is empty then", x.count(7), 0);
        check.due("and takes bytes again", x.feed('w'), 1);
    }

    private static void reads() {
        WinkCircle x = Check.of("w7,9;r0,1;s1,2;b7,3;h3,4;d5,9;");
        check.due("five players", x.count(1), 5);
        check.due("the last one is the murderer", x.stand(1), 4);
        check.due("proof", x.stand(2), 9);
        int[] looks = {1, 2, 3, 4, 0};
        int[] slow = {1, 2, 3, 4, 9};
        for (int p = 0; p < 5; p++) {
            check.due("kind of " + p, x.kind(p), p + 1);
            check.due("look of " + p, x.player(p, 1), looks[p]);
            check.due("slowness of " + p, x.player(p, 2), slow[p]);
        }
        x = Check.of("w02,09;r01,01;s00,09;b00,1;");
        check.due("two figures", x.count(1), 3);
        check.due("two figures, murderer", x.stand(1), 2);
        check.due("two figures, look", x.player(0, 1), 1);
        check.due("two figures, slow", x.player(1, 2), 9);
        check.due("a seat that there is", Check.of("w0,1;r2,1;r2,1;r1,1;").player(0, 1), 2);
        check.due("the first that there is not", Check.of("w0,1;r3,1;r2,1;r1,1;").player(0, 1), 1);
        check.due("the murderer that there is", Check.of("w2,1;r3,1;r2,1;r1,1;").stand(1), 2);
        check.due("the first murderer that there is not", Check.of("w3,1;r3,1;r2,1;r1,1;").stand(1), 2);
        x = new WinkCircle();
        Check.feedAll(x, "w0,1;r0,1;r0,1;r0,1;r0,1;r0,1;r0,1;r0,1;r0,1;");
        check.due("eight players", x.circle(), 8);
    }

    private static void fault(String text, int place, int number) {
        WinkCircle x = new WinkCircle();
        Check.feedAll(x, text);
        check.due("circle of '" + text + "'", x.circle(), -1000100 - place);
        check.due("fault of '" + text + "'", x.fault(), number);
        check.due("the tape is empty behind '" + text + "'", x.count(7), 0);
    }

    private static void findsFaults() {
        fault("", 0, 1);
        fault("x", 0, 1);
        fault("W0,1;", 0, 1);
        fault("0", 0, 1);
        fault("w", 1, 1);
        fault("w,", 1, 1);
        fault("w8,1;", 1, 2);
        fault("w10,1;", 1, 2);
        fault("w007,1;", 1, 1);
        fault("w123", 1, 1);
        fault("w0", 2, 1);
        fault("w0;", 2, 1);
        fault("w0,", 3, 1);
        fault("w0,0;", 3, 2);
        fault("w0,10;", 3, 2);
        fault("w0,001;", 3, 1);
        fault("w0,1", 4, 1);
        fault("w0,1,", 4, 1);
        fault("w0,1;", 5, 1);
        fault("w0,1; r0,1;", 5, 1);
        fault("w0,1;w0,1;", 5, 1);
        fault("w0,1;r", 6, 1);
        fault("w0,1;r8,1;", 6, 2);
        fault("w0,1;r0;", 7, 1);
        fault("w0,1;r0,0;", 8, 2);
        fault("w0,1;r0,10;", 8, 2);
        fault("w0,1;r0,99", 8, 2);
        fault("w0,1;r0,1", 9, 1);
        fault("w0,1;r0,1;", 10, 1);
        fault("w0,1;r0,1;s0,1;", 15, 1);
        fault(THREE + "x", 20, 1);
        fault(THREE + ";", 20, 1);
        fault(THREE + "5", 20, 1);
        fault(THREE + "r", 21, 1);
        fault(THREE + "\n", 20, 1);
        String eight = THREE + "d0,1;d0,1;d0,1;d0,1;d0,1;";
        fault(eight + "r0,1;", 45, 3);
        fault(eight + "d", 45, 3);
        fault(eight + "x", 45, 1);
        fault(eight + ",", 45, 1);
        fault("w8,0;x", 1, 2);
    }

    private static void keepsAllByFault() {
        WinkCircle x = Check.of("w1,2;r1,1;s0,3;b0,1;");
        x.ticks(2);
        int looks = x.player(0, 1);
        Check.feedAll(x, "w0,1;r0,1;r0,1;r0,1;r0,0;");
        check.due("a fault", x.circle(), -1000123);
        check.due("its number", x.fault(), 2);
        check.due("players stay", x.count(1), 3);
        check.due("the murderer stays", x.stand(1), 1);
        check.due("proof stays", x.stand(2), 2);
        check.due("TICK stays", x.count(3), 2);
        check.due("looks stay", x.player(0, 1), looks);
        check.due("acts stay", x.undo(), 1);
        Check.feedAll(x, THREE);
        check.due("read then", x.circle(), 3);
        check.due("the latest fault stays", x.fault(), 2);
    }

    private static void forgetsTextsReadBefore() {
        for (int bytes = 0; bytes < THREE.length(); bytes++) {
            WinkCircle x = Check.of(THREE);
            Check.feedAll(x, THREE.substring(0, bytes));
            check.due("the first " + bytes + " bytes of the text before", x.circle(), -1000100 - bytes);
            check.due("its fault", x.fault(), 1);
        }
    }

    private static void standsInPlace() {
        WinkCircle x = Check.of("w0,1;s1,1;s0,1;s0,1;");
        x.ticks(2);
        check.due("found out", x.stand(3), 1);
        check.due("one is dead", x.count(4), 1);
        check.due("one saw it", x.count(5), 1);
        Check.feedAll(x, "w1,3;h0,1;d0,1;s0,2;r0,1;");
        check.due("another circle", x.circle(), 4);
        check.due("TICK 0", x.count(3), 0);
        check.due("all live", x.stand(4), 15);
        check.due("nobody saw", x.count(5), 0);
        check.due("not found out", x.stand(3), 0);
        check.due("no act", x.count(6), 0);
        check.due("nothing to undo", x.undo(), STATE);
    }

    private static void undoes() {
        WinkCircle x = Check.of("w0,2;s1,2;s0,2;s0,1;r0,1;");
        check.due("a tick", x.ticks(1), 0);
        check.due("it fades", x.player(1, 0), 1);
        check.due("a head", x.turnHead(3, 2), 1);
        check.due("proof", x.proof(1), 2);
        check.due("role", x.role(2), 0);
        check.due("nobody saw any more", x.count(5), 0);
        check.due("ticks", x.ticks(2), 2);
        check.due("rise", x.rise(1), 0);
        check.due("seven acts", x.count(6), 7);
        check.due("undo the rise", x.undo(), 6);
        check.due("dead again", x.stand(6), 2);
        check.due("looks at none again", x.player(1, 1), NONE);
        check.due("undo a tick", x.undo(), 5);
        check.due("alive again", x.stand(5), 2);
        check.due("TICK is less", x.count(3), 2);
        check.due("undo a tick, too", x.undo(), 4);
        check.due("left", x.player(1, 3), 2);
        check.due("undo the role", x.undo(), 3);
        check.due("the murderer", x.stand(1), 0);
        check.due("they saw again", x.count(5), 1);
        check.due("undo the proof", x.undo(), 2);
        check.due("proof as before", x.stand(2), 2);
        check.due("undo the head", x.undo(), 1);
        check.due("looks as before", x.player(3, 1), 1);
        check.due("undo the first tick", x.undo(), 0);
        check.due("lives", x.stand(4), 15);
        check.due("TICK 0", x.count(3), 0);
        check.due("none left", x.undo(), STATE);
        x.ticks(24);
        check.due("24 are kept", x.count(6), 24);
        x.ticks(3);
        check.due("not more", x.count(6), 24);
        for (int k = 23; k >= 0; k--) {
            check.due("undo down to " + k, x.undo(), k);
        }
        check.due("the oldest are forgotten", x.count(3), 3);
        check.due("none is left", x.undo(), STATE);
        x.turnHead(3, 3);
        x.ticks(25);
        x.role(0);
        x.proof(10);
        check.due("what is refused is no act", x.count(6), 0);
        check.due("proof as it was is an act", x.proof(2), 2);
        check.due("so it can be undone", x.undo(), 0);
    }
}
