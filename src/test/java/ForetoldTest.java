/** Promises 17 to 26: what is foretold of players, roles, looks, proof, sets and shares. */
public final class ForetoldTest {
    private static final int NONE = WinkCircle.NONE, BAD = WinkCircle.BAD, STATE = WinkCircle.STATE;
    /** The murderer 0 roves over starers at it: 2, 3 and 1 fade by ticks 1, 2 and 3. */
    private static final String ROUND = "w0,9;r0,9;s0,1;s0,2;s0,3;";

    private static final Check check = new Check("ForetoldTest");

    public static void main(String[] args) {
        tellsAhead();
        tellsToll();
        tellsWhen();
        tellsOut();
        tellsMeetings();
        findsRoles();
        leavesTheMurdererAsItIs();
        findsGlances();
        findsPassingProof();
        findsSets();
        shares();
        looksSixtyTicksAhead();
        changesNothing();
        check.end();
    }

    private static void tellsAhead() {
        WinkCircle x = Check.of(ROUND);
        int[] how = {0, 1, 1, 2, 2};
        int[] seat = {0, 0, 0, NONE, NONE};
        int[] saw = {0, 0, 1, 2, 2};
        for (int n = 0; n < 5; n++) {
            check.due("2 ahead by " + n + ", how", x.ahead(2, n, 0), how[n]);
            check.due("2 ahead by " + n + ", seat", x.ahead(2, n, 1), seat[n]);
            check.due("2 ahead by " + n + ", saw", x.ahead(2, n, 2), saw[n]);
        }
        check.due("far ahead", x.ahead(0, 60, 0), 0);
        check.due("too far", x.ahead(0, 61, 0), BAD);
        check.due("n -1", x.ahead(0, -1, 0), BAD);
        check.due("player 4", x.ahead(4, 0, 0), BAD);
        check.due("player -1", x.ahead(-1, 0, 0), BAD);
        check.due("what 3", x.ahead(0, 0, 3), BAD);
        check.due("what -1", x.ahead(0, 0, -1), BAD);
    }

    private static void tellsToll() {
        WinkCircle x = Check.of(ROUND);
        int[] dead = {0, 0, 0, 4, 6, 14, 14};
        for (int n = 0; n < dead.length; n++) {
            check.due("toll " + n, x.toll(n, 0), dead[n]);
            check.due("found " + n, x.toll(n, 1), 0);
        }
        x.proof(2);
        check.due("not found behind 1", x.toll(1, 1), 0);
        check.due("found behind 2", x.toll(2, 1), 1);
        check.due("then nobody else fades", x.toll(60, 0), 12);
        check.due("n 61", x.toll(61, 0), BAD);
        check.due("n -1", x.toll(-1, 0), BAD);
        check.due("what 2", x.toll(0, 2), BAD);
        check.due("what -1", x.toll(0, -1), BAD);
        check.due("STATE ahead of BAD", new WinkCircle().toll(61, 0), STATE);
    }

    private static void tellsWhen() {
        WinkCircle x = Check.of(ROUND);
        check.due("2 fades", x.when(2, 1), 1);
        check.due("2 is dead", x.when(2, 2), 3);
        check.due("3 fades", x.when(3, 1), 2);
        check.due("3 is dead", x.when(3, 2), 5);
        check.due("0 never", x.when(0, 1), NONE);
        x.ticks(3);
        check.due("2 is dead now, not living", x.when(2, 1), 0);
        check.due("2 is dead now", x.when(2, 2), 0);
        check.due("1 fades now", x.when(1, 1), 0);
        check.due("1 dies in one", x.when(1, 2), 1);
        check.due("how 0", x.when(0, 0), BAD);
        check.due("how 3", x.when(0, 3), BAD);
        check.due("player 4", x.when(4, 1), BAD);
        check.due("player -1", x.when(-1, 1), BAD);
        check.due("no circle", new WinkCircle().when(0, 1), BAD);
    }

    private static void edge(String call, int got, int at, int passed) {
        check.due(call + " with " + passed + " ticks passed", got, at - passed > 60 ? NONE : Math.max(0, at - passed));
    }

    private static void looksSixtyTicksAhead() {
        WinkCircle x = Check.of("w5,2;d2,8;h0,6;d0,9;d0,7;s4,9;r0,9;b6,8;s4,6;");
        for (int passed = 0; passed < 74; passed++) {
            edge("0 fades", x.when(0, 1), 63, passed);
            edge("0 is dead", x.when(0, 2), 71, passed);
            if (passed <= 63) {
                edge("0 and 5 meet", x.meet(0, 5), 63, passed);
            }
            check.due("how 0 is", x.player(0, 0), passed < 63 ? 0 : passed < 71 ? 1 : 2);
            x.ticks(1);
        }
        x = Check.of("w7,5;b6,7;b1,8;r4,9;r6,7;r4,6;d7,9;h7,7;d0,7;");
        for (int passed = 0; passed < 68; passed++) {
            edge("out", x.out(), 65, passed);
            check.due("whether it is", x.stand(3), passed < 65 ? 0 : 1);
            x.ticks(1);
        }
    }

    private static void tellsOut() {
        check.due("no circle", new WinkCircle().out(), STATE);
        WinkCircle x = Check.of(ROUND);
        check.due("never", x.out(), NONE);
        x.proof(2);
        check.due("behind two", x.out(), 2);
        x.proof(1);
        check.due("behind one", x.out(), 1);
        x.ticks(1);
        check.due("now", x.out(), 0);
        x.role(1);
        check.due("no more", x.out(), NONE);
    }

    private static void tellsMeetings() {
        WinkCircle x = Check.of("w0,9;r1,1;s0,1;b0,1;h0,1;");
        check.due("they look at each other now", x.meet(0, 1), 0);
        check.due("either way", x.meet(1, 0), 0);
        check.due("2 and 0", x.meet(2, 0), NONE);
        check.due("2 and 3 never", x.meet(2, 3), NONE);
        check.due("0 and 3", x.meet(0, 3), 2);
        check.due("the same", x.meet(1, 1), BAD);
        check.due("no such one", x.meet(0, 4), BAD);
        check.due("no such one, first", x.meet(4, 0), BAD);
        check.due("meet -1", x.meet(-1, 0), BAD);
        check.due("no circle", new WinkCircle().meet(0, 1), BAD);
        // 0 looks at seat 1 again by every third tick, 1 at seat 0 by every third that is one later.
        x = Check.of("w2,9;r1,1;b2,1;s3,1;s0,1;");
        check.due("looks of 0", x.ahead(0, 3, 1), 1);
        check.due("looks of 1", x.ahead(1, 1, 1), 0);
        check.due("0 and 1 never meet", x.meet(0, 1), NONE);
    }

    private static void findsRoles() {
        check.due("STATE ahead of BAD", new WinkCircle().bestRole(0, 0), STATE);
        WinkCircle x = Check.of(ROUND);
        check.due("n 0", x.bestRole(0, 0), BAD);
        check.due("n 41", x.bestRole(41, 0), BAD);
        check.due("what 2", x.bestRole(1, 2), BAD);
        check.due("what -1", x.bestRole(1, -1), BAD);
        check.due("none dies in one tick: the first", x.bestRole(1, 0), 0);
        check.due("none", x.bestRole(1, 1), 0);
        check.due("who", x.bestRole(40, 0), 0);
        check.due("three", x.bestRole(40, 1), 3);
        x = Check.of("w0,9;s1,1;s2,1;s1,1;r0,1;");
        check.due("1 does better than 0", x.bestRole(5, 0), 1);
        check.due("one", x.bestRole(5, 1), 1);
        x.ticks(1);
        check.due("from now on", x.bestRole(1, 1), 0);
        x = Check.of("w2,9;s1,1;s0,1;s0,1;");
        x.role(0);
        x.ticks(2);
        x.role(2);
        check.due("the dead are counted", x.bestRole(1, 1), 1);
        check.due("of several the first", x.bestRole(1, 0), 0);
        x = Check.of("w1,9;s1,1;s0,1;s0,1;");
        x.ticks(2);
        check.due("a dead one may be the first", x.bestRole(3, 0), 0);
    }

    /** Read plainly: the one who is the murderer goes on as such, with what the others saw of it. */
    private static void leavesTheMurdererAsItIs() {
        WinkCircle x = Check.of("w0,1;r0,9;s0,1;s0,1;s0,1;");
        x.ticks(1);
        check.due("found out", x.stand(3), 1);
        check.due("0 kills no more than 2", x.bestRole(9, 1), 1);
        Check.fill(x, 0, 0, 1, 1, 1, 1);
        check.due("so the murderer fits its own time to come", x.who(0, 0, 0, 0, 4), 15);
        Check.fill(x, 1, 0, 1, 2, 3, 3);
        check.due("and no other", x.who(0, 0, 1, 0, 4), 0);
    }

    private static void findsGlances() {
        check.due("STATE ahead of BAD", new WinkCircle().glance(0, 0), STATE);
        WinkCircle x = Check.of("w0,9;s1,1;s2,1;s3,1;s0,1;s0,1;");
        check.due("n 0", x.glance(0, 0), BAD);
        check.due("n 41", x.glance(41, 0), BAD);
        check.due("what 2", x.glance(1, 2), BAD);
        check.due("none dies in one tick: the least", x.glance(1, 0), 1);
        check.due("none", x.glance(1, 1), 0);
        check.due("of 3 and 4 the least", x.glance(2, 0), 3);
        check.due("one", x.glance(2, 1), 1);
        x = Check.of("w1,9;s1,1;s2,1;s3,1;");
        check.due("the seat above itself", x.glance(40, 0), 0);
        check.due("one dies by that", x.glance(40, 1), 1);
        x = Check.of("w0,9;s1,1;s0,1;s0,1;");
        x.ticks(2);
        x.role(1);
        check.due("it is dead", x.glance(1, 0), NONE);
        check.due("it is dead, how many", x.glance(1, 1), NONE);
        check.due("BAD ahead of it", x.glance(0, 1), BAD);
    }

    private static void findsPassingProof() {
        check.due("STATE ahead of BAD", new WinkCircle().pass(0), STATE);
        WinkCircle x = Check.of(ROUND);
        check.due("n 0", x.pass(0), BAD);
        check.due("n 41", x.pass(41), BAD);
        check.due("one wink", x.pass(1), 2);
        check.due("two winks", x.pass(2), 3);
        check.due("three winks: 1 saw two, 2 and 3 two", x.pass(40), 3);
        check.due("proof is as it was", x.stand(2), 9);
        x = Check.of("w0,9;s1,1;s2,1;s1,1;");
        check.due("no wink", x.pass(40), 1);
        x = Check.of("w0,1;s1,1;s0,1;s0,1;");
        x.ticks(1);
        check.due("found out", x.pass(1), NONE);
        // Each round of the murderer, 1 sits up again: the two others see nine winks and more.
        x = Check.of("w0,9;s1,1;s0,1;s0,1;");
        for (int i = 0; i < 9; i++) {
            x.ticks(2);
            x.rise(1);
            x.turnHead(1, 0);
        }
        check.due("2 saw nine, found out", x.stand(3), 1);
        x.undo();
        x.undo();
        x.undo();
        x.undo();
        check.due("2 saw eight", x.player(2, 4), 8);
        check.due("found out by any proof", x.pass(1), NONE);
        x.undo();
        x.undo();
        x.undo();
        x.undo();
        check.due("2 saw seven", x.player(2, 4), 7);
        check.due("by all but the greatest", x.pass(1), 9);
    }

    private static void findsSets() {
        check.due("STATE ahead of BAD", new WinkCircle().sets(100, 0), STATE);
        WinkCircle x = Check.of(ROUND);
        check.due("v -1", x.sets(-1, 0), BAD);
        check.due("v 100", x.sets(100, 0), BAD);
        check.due("what 3", x.sets(0, 3), BAD);
        check.due("what -1", x.sets(0, -1), BAD);
        check.due("all sets saw none", x.sets(0, 0), 16);
        check.due("in all", x.sets(0, 1), 0);
        check.due("in any", x.sets(0, 2), 15);
        check.due("none saw one", x.sets(1, 0), 0);
        check.due("none: in all", x.sets(1, 1), 0);
        check.due("none: in any", x.sets(1, 2), 0);
        check.due("v 99", x.sets(99, 0), 0);
        x.ticks(2);
        check.due("1 saw two", x.player(1, 4), 2);
        check.due("2 saw one", x.player(2, 4), 1);
        check.due("3 saw one", x.player(3, 4), 1);
        check.due("3 together: 1 with 2 or 3, with or without 0", x.sets(3, 0), 4);
        check.due("1 is in all", x.sets(3, 1), 2);
        check.due("in any", x.sets(3, 2), 15);
        check.due("2 together: 1, or 2 and 3", x.sets(2, 0), 4);
        check.due("4 together", x.sets(4, 1), 14);
        x.ticks(1);
        check.due("2 is dead", x.stand(6), 4);
        check.due("2 saw two", x.player(2, 4), 2);
        check.due("3 saw two", x.player(3, 4), 2);
        check.due("the dead are in no set", x.sets(2, 2), 11);
        check.due("nor counted", x.sets(2, 0), 4);
        check.due("1 and 3", x.sets(4, 1), 10);
        check.due("with or without 0", x.sets(4, 0), 2);
        x = Check.of("w2,9;s2,1;s2,1;s1,1;");
        x.ticks(1);
        check.due("0 saw one", x.player(0, 4), 1);
        check.due("0 is in all", x.sets(1, 1), 1);
        check.due("others are in some", x.sets(1, 2), 7);
        x = Check.of("w1,9;s1,1;s0,1;s1,1;");
        x.ticks(2);
        check.due("0 is dead", x.stand(6), 1);
        check.due("2 in all", x.sets(1, 1), 4);
        check.due("1 and 2 in any", x.sets(1, 2), 6);
    }

    private static void shares() {
        WinkCircle x = Check.of(ROUND);
        check.due("none saw any", x.share(1, 999), 0);
        check.due("n -1", x.share(1, -1), BAD);
        check.due("n 1000", x.share(1, 1000), BAD);
        check.due("player 4", x.share(4, 1), BAD);
        check.due("player -1", x.share(-1, 1), BAD);
        check.due("no circle", new WinkCircle().share(0, 1), BAD);
        x.ticks(2);
        int[] saw = {0, 2, 1, 1};
        int[] of10 = {0, 6, 2, 2};
        int[] of11 = {0, 6, 3, 2};
        int[] of3 = {0, 2, 1, 0};
        int[] of1 = {0, 1, 0, 0};
        for (int p = 0; p < 4; p++) {
            check.due("saw of " + p, x.player(p, 4), saw[p]);
            check.due("of 10 for " + p, x.share(p, 10), of10[p]);
            check.due("of 11 for " + p, x.share(p, 11), of11[p]);
            check.due("of 3 for " + p, x.share(p, 3), of3[p]);
            check.due("of 1 for " + p, x.share(p, 1), of1[p]);
            check.due("of 0 for " + p, x.share(p, 0), 0);
        }
        x.ticks(1);
        check.due("a dead one has a share", x.share(2, 999), 333);
        check.due("the greatest", x.share(1, 999), 333);
        x = Check.of("w2,9;s2,1;s2,1;s1,1;s2,1;");
        x.ticks(1);
        check.due("0 and 3 saw one", x.count(5), 2);
        check.due("0 gets what is over", x.share(0, 7), 4);
        check.due("3 does not", x.share(3, 7), 3);
        x = Check.of("w2,9;s2,1;s2,1;s1,1;");
        x.ticks(1);
        check.due("one gets all", x.share(0, 999), 999);
    }

    private static void changesNothing() {
        WinkCircle x = Check.of(ROUND);
        x.ticks(1);
        Check.fill(x, 0, 0, 0, 1);
        x.ahead(0, 60, 0);
        x.toll(60, 0);
        x.when(0, 2);
        x.out();
        x.meet(0, 1);
        x.bestRole(40, 0);
        x.glance(40, 0);
        x.pass(40);
        x.sets(1, 0);
        x.share(1, 9);
        x.byTurns(3, 20);
        x.who(2, 1, 0, 0, 2);
        x.sleep(60, 5, 0);
        x.drawn(60, 7, 0);
        check.due("murderer", x.stand(1), 0);
        check.due("proof", x.stand(2), 9);
        check.due("found out", x.stand(3), 0);
        check.due("fade", x.stand(5), 4);
        check.due("dead", x.stand(6), 0);
        check.due("TICK", x.count(3), 1);
        check.due("saw", x.count(5), 2);
        check.due("acts", x.count(6), 1);
        check.due("look", x.player(0, 1), 2);
        check.due("kind", x.kind(2), 2);
        check.due("slow", x.player(2, 2), 2);
        check.due("asleep is none", x.ahead(3, 1, 1), 0);
    }
}
