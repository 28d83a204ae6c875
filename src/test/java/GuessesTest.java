/** Promises 27 to 30: turns of two, all that fits, sleep, and games by draws. */
public final class GuessesTest {
    private static final int BAD = WinkCircle.BAD, STATE = WinkCircle.STATE;
    private static final int NULL = -1000011, PLACE = -1000012;
    /** 0 winks at 1 by the first tick, 2 sees it; 1 is dead behind two. */
    private static final String QUICK = "w0,1;s1,1;s0,1;s0,1;";

    private static final Check check = new Check("GuessesTest");

    public static void main(String[] args) {
        playsTurns();
        findsMurderers();
        findsKinds();
        findsLooks();
        findsSlownesses();
        refusesGuesses();
        weighsSleep();
        weighsSleepAtEdges();
        refusesSleep();
        playsDraws();
        beginsRoundsByDraws();
        refusesDraws();
        check.end();
    }

    private static void playsTurns() {
        check.due("STATE ahead of BAD", new WinkCircle().byTurns(4, 1), STATE);
        WinkCircle x = Check.of("w0,1;s1,1;s0,1;s1,1;");
        check.due("n -1", x.byTurns(-1, 1), BAD);
        check.due("n 4", x.byTurns(4, 1), BAD);
        check.due("m 0", x.byTurns(0, 0), BAD);
        check.due("m 21", x.byTurns(0, 21), BAD);
        check.due("none in one tick", x.byTurns(0, 1), 0);
        check.due("no turn", x.byTurns(0, 20), 1);
        check.due("one turn: it does nothing", x.byTurns(1, 20), 1);
        check.due("two turns: 1 looks away", x.byTurns(2, 20), 0);
        check.due("three turns: that does not help", x.byTurns(3, 20), 0);
        x = Check.of("w0,1;s2,1;s0,1;s1,1;s1,1;");
        check.due("0 looks at 2, not at 1", x.byTurns(0, 20), 0);
        check.due("its head is turned to 1", x.byTurns(1, 20), 1);
        check.due("1 looks away", x.byTurns(2, 20), 0);
        x = Check.of("w2,1;s2,1;s2,1;s1,1;");
        check.due("2 and 1", x.byTurns(0, 3), 1);
        check.due("0 is next above 2; it cannot save 1", x.byTurns(2, 3), 1);
        // 1 looks at 0 or at 2; the murderer, who turns last, follows only if 1 looks back.
        x = Check.of("w0,9;s2,1;s0,1;s0,1;");
        check.due("the last turn finds 2", x.byTurns(3, 5), 1);
        x.ticks(2);
        check.due("2 is dead", x.stand(6), 4);
        check.due("with 2 dead, none is found", x.byTurns(2, 5), 1);
        check.due("with a turn, 1 is found", x.byTurns(1, 5), 2);
        x.turnHead(0, 1);
        x.ticks(2);
        check.due("the head of a dead one does nothing", x.byTurns(3, 5), 2);
        x.role(1);
        check.due("nor that of a dead murderer", x.byTurns(3, 5), 2);
        // Two rovers that meet if their looks are in step; who turns last sees to that, or against it.
        x = Check.of("w0,9;r1,1;r0,1;s3,1;s2,1;");
        check.due("in step", x.byTurns(0, 4), 1);
        check.due("the one keeps it", x.byTurns(1, 4), 1);
        check.due("the other has the last turn", x.byTurns(2, 4), 0);
        check.due("the one has it", x.byTurns(3, 4), 1);
        x = Check.of("w3,9;r2,1;s2,1;s1,1;r1,1;");
        check.due("not in step, 3 and 0", x.byTurns(0, 4), 0);
        check.due("the head of 3 comes to 0", x.byTurns(1, 4), 1);
        check.due("the other has the last turn, 3 and 0", x.byTurns(2, 4), 0);
        check.due("the one has it, 3 and 0", x.byTurns(3, 4), 1);
        x = Check.of("w0,9;d2,1;s0,1;s1,1;");
        x.ticks(2);
        check.due("a dozer's head, that looks at none, can be turned", x.byTurns(3, 3), 1);
    }

    private static void findsMurderers() {
        WinkCircle x = Check.of(QUICK);
        Check.fill(x, 0, 0, 0, 1, 1);
        check.due("0 and 1 kill each other", x.who(0, 0, 0, 0, 3), 3);
        check.due("of whichever player it is asked", x.who(2, 0, 0, 0, 3), 3);
        Check.fill(x, 1, 2, 0, 0, 0);
        check.due("2 kills nobody", x.who(0, 0, 1, 0, 3), 4);
        check.due("in one tick nobody does", x.who(0, 0, 1, 2, 1), 7);
        Check.fill(x, 2, 1, 9, 0, 1, 9);
        check.due("from a place on", x.who(0, 0, 2, 1, 2), 3);
        check.due("from another place on", x.who(0, 0, 2, 0, 2), 0);
        x.ticks(1);
        Check.fill(x, 3, 0, 1, 1, 1);
        check.due("from now on: 1 dies; 1 winks at 0 ahead of it", x.who(0, 0, 3, 0, 3), 5);
        Check.fill(x, 3, 0, 1, 2, 2);
        check.due("1 fades, and kills yet", x.who(0, 0, 3, 0, 3), 2);
        Check.fill(x, 4, 0, -1);
        check.due("never fewer than none", x.who(0, 0, 4, 0, 1), 0);
    }

    private static void findsKinds() {
        WinkCircle x = Check.of(QUICK);
        Check.fill(x, 0, 0, 0, 1, 1);
        check.due("1 stares", x.who(1, 1, 0, 0, 3), 1 << 2);
        Check.fill(x, 1, 0, 0, 0, 1);
        check.due("1 roves, or roves back", x.who(1, 1, 1, 0, 3), 1 << 1 | 1 << 3);
        Check.fill(x, 2, 0, 0, 0, 0);
        check.due("1 is shy, or dozes", x.who(1, 1, 2, 0, 3), 1 << 4 | 1 << 5);
        check.due("all", x.who(1, 1, 2, 0, 1), 62);
        x.ticks(2);
        Check.fill(x, 3, 0, 1, 1);
        check.due("a dead one may be of each kind", x.who(1, 1, 3, 0, 2), 62);
        // As a rover, a dozer that looks at none looks above its own seat, roving back below it.
        x = Check.of("w0,9;s1,1;d0,1;s1,1;s1,1;");
        x.ticks(2);
        check.due("1 looks at none", x.player(1, 1), WinkCircle.NONE);
        Check.fill(x, 0, 0, 0, 1);
        check.due("roving back it looks at 0", x.who(1, 1, 0, 0, 2), 1 << 3);
        Check.fill(x, 0, 0, 0, 0, 0, 1);
        check.due("roving, it looks at 2, 3, then 0", x.who(1, 1, 0, 0, 4), 1 << 1);
    }

    private static void findsLooks() {
        WinkCircle x = Check.of(QUICK);
        Check.fill(x, 0, 0, 0, 1, 1);
        Check.fill(x, 1, 0, 0, 0, 0);
        check.due("1 looked at 0", x.who(1, 2, 0, 0, 3), 1);
        check.due("else at 2", x.who(1, 2, 1, 0, 3), 4);
        check.due("of the murderer both, since both look at it", x.who(0, 2, 0, 0, 3), 6);
        check.due("not its own", x.who(2, 2, 0, 0, 3), 3);
        x.ticks(2);
        check.due("the dead", x.who(1, 2, 0, 0, 3), STATE);
        check.due("of the dead all else", x.who(1, 3, 1, 0, 3), 0);
    }

    private static void findsSlownesses() {
        WinkCircle x = Check.of(QUICK);
        Check.fill(x, 0, 0, 0, 0, 0, 0, 0, 0, 0, 0, 0, 1, 1, 1);
        check.due("slowness 9", x.who(1, 3, 0, 0, 12), 1 << 9);
        check.due("slowness 8 or 9", x.who(1, 3, 0, 0, 8), 1 << 8 | 1 << 9);
        check.due("three and more", x.who(1, 3, 0, 0, 3), 1016);
        Check.fill(x, 1, 0, 0, 0, 1);
        check.due("two", x.who(1, 3, 1, 0, 3), 4);
        check.due("of one that does not die, none", x.who(2, 3, 1, 0, 3), 0);
        x.ticks(1);
        Check.fill(x, 2, 0, 1);
        check.due("one that fades has its ticks left", x.who(1, 3, 2, 0, 1), 1022);
    }

    private static void refusesGuesses() {
        WinkCircle x = Check.of(QUICK);
        x.row(0, 0, 13);
        check.due("no circle", new WinkCircle().who(0, 0, 0, 0, 1), BAD);
        check.due("player 3", x.who(3, 0, 0, 0, 1), BAD);
        check.due("player -1", x.who(-1, 0, 0, 0, 1), BAD);
        check.due("which 4", x.who(0, 4, 0, 0, 1), BAD);
        check.due("which -1", x.who(0, -1, 0, 0, 1), BAD);
        check.due("row 8", x.who(0, 0, 8, 0, 1), BAD);
        check.due("row -1", x.who(0, 0, -1, 0, 1), BAD);
        check.due("n 0", x.who(0, 0, 0, 0, 0), BAD);
        check.due("n 13", x.who(0, 0, 0, 0, 13), BAD);
        check.due("n 12", x.who(2, 3, 0, 1, 12), 0);
        check.due("BAD ahead of NULL", x.who(0, 0, 1, 0, 13), BAD);
        check.due("a missing row", x.who(0, 0, 1, 0, 1), NULL);
        check.due("NULL ahead of PLACE", x.who(0, 0, 1, -1, 1), NULL);
        check.due("beyond the end", x.who(0, 0, 0, 2, 12), PLACE);
        check.due("i -1", x.who(0, 0, 0, -1, 1), PLACE);
        check.due("i, the greatest", x.who(0, 0, 0, Integer.MAX_VALUE, 12), PLACE);
        x.ticks(2);
        check.due("STATE ahead of NULL", x.who(1, 2, 1, 0, 1), STATE);
        check.due("BAD ahead of STATE", x.who(1, 2, 1, 0, 13), BAD);
    }

    private static void likely(WinkCircle x, int n, int p, long above, long below) {
        check.due("sleep(" + n + ", " + p + ", 0)", x.sleep(n, p, 0), above);
        check.due("sleep(" + n + ", " + p + ", 1)", x.sleep(n, p, 1), below);
    }

    private static void weighsSleep() {
        WinkCircle x = Check.of(QUICK);
        // 1 must be awake, to be winked at, and 2, to see it.
        likely(x, 1, 4, 9, 25);
        likely(x, 60, 5, 1, 4);
        likely(x, 1, 1, 81, 100);
        likely(x, 1, 9, 1, 100);
        likely(x, 0, 4, 0, 1);
        likely(x, 9, 0, 1, 1);
        likely(x, 9, 10, 0, 1);
        x.ticks(1);
        likely(x, 0, 3, 1, 1);
        likely(x, 9, 10, 1, 1);
        // Of the seven others one fades if it is awake, and any other that is awake sees it.
        x = Check.of("w0,1;r0,9;s0,9;s0,9;s0,9;s0,9;s0,9;s0,9;s0,9;");
        likely(x, 7, 5, 15, 16);
    }

    private static void weighsSleepAtEdges() {
        // Only 3 saw it; nobody falls asleep but 1, 2, 3; 1 is dead by then.
        WinkCircle x = Check.of("w0,9;r3,1;s0,1;s3,1;s0,9;");
        check.due("1 fades", x.ticks(1), 0);
        check.due("1 is dead", x.ticks(1), 2);
        x.proof(1);
        check.due("the rover looks at 2", x.player(0, 1), 2);
        x.turnHead(2, 0);
        x.turnHead(0, 1);
        // 2, who looks at 0, is winked at, and 3 sees it; else 3 is, by the next tick, and none sees it.
        likely(x, 1, 3, 49, 100);
        likely(x, 2, 3, 49, 100);
        // 0 sees 2 wink at 1.
        x = Check.of("w2,1;s2,1;s2,1;s1,1;");
        likely(x, 1, 4, 9, 25);
        // A rover that sleeps does not rove on: 3 sees it only awake, 1 is winked at only awake.
        x = Check.of("w0,1;s1,1;r3,1;s3,1;b1,1;");
        likely(x, 1, 2, 16, 25);
        // All but the murderer are dead.
        x = Check.of("w0,9;r0,1;s0,1;s0,1;");
        x.ticks(4);
        check.due("1 and 2 are dead", x.stand(6), 6);
        likely(x, 60, 7, 0, 1);
    }

    private static void refusesSleep() {
        check.due("STATE ahead of BAD", new WinkCircle().sleep(61, 0, 0), STATE);
        WinkCircle x = Check.of(QUICK);
        check.due("n -1", x.sleep(-1, 0, 0), BAD);
        check.due("n 61", x.sleep(61, 0, 0), BAD);
        check.due("p -1", x.sleep(0, -1, 0), BAD);
        check.due("p 11", x.sleep(0, 11, 0), BAD);
        check.due("what 2", x.sleep(0, 0, 2), BAD);
        check.due("what -1", x.sleep(0, 0, -1), BAD);
    }

    private static void playsDraws() {
        WinkCircle x = Check.of(QUICK);
        check.due("no tick, none dies", x.drawn(0, 9, 0), 0);
        check.due("no tick, not found out", x.drawn(0, 9, 1), 0);
        // X 151263: 0, its head to 1 (as it is); 1 fades, it is found out.
        check.due("one tick, none dies", x.drawn(1, 9, 0), 0);
        check.due("one tick, found out", x.drawn(1, 9, 1), 1);
        // X 394793594: 2 is the murderer; 1 dies.
        check.due("two ticks, one dies", x.drawn(2, 9, 0), 1);
        check.due("two ticks, found out once", x.drawn(2, 9, 1), 1);
        // Seed 10, X 168070: 1; not by 3. Then X 677268843: 0, by 3, its head to 84658605 % 3, its own.
        check.due("seed 10, two ticks", x.drawn(2, 10, 0), 1);
        // Seed 3, X 50421: 0, by 3, its head to 6302 % 3, that is 2, who looks at 0: 2 fades, not 1.
        x.turnHead(1, 2);
        check.due("1 looks away, none found out", x.drawn(1, 10, 1), 0);
        check.due("but the head comes to 2", x.drawn(2, 3, 0), 1);
        // The dead sit up, and die again.
        x = Check.of("w0,9;s1,1;s0,1;s1,1;");
        x.ticks(2);
        check.due("1 is dead", x.stand(6), 2);
        // Seed 1, X 16807: 1 sits up, looks at 2.
        check.due("none dies", x.drawn(1, 1, 0), 0);
        check.due("1 does not look at 0", x.drawn(3, 1, 0), 0);
        x = Check.of("w0,9;s1,1;r2,1;s1,1;");
        check.due("1, a rover, is dead", x.ticks(2), 2);
        // X 16807: 1 sits up, and comes to look at 0. X 282475249: 1, not by 3; it dies again.
        check.due("none dies, though one was dead", x.drawn(1, 1, 0), 0);
        check.due("1 dies again", x.drawn(2, 1, 0), 1);
        x = Check.of("w0,9;r2,1;s0,1;s0,1;");
        x.ticks(2);
        check.due("1 is dead, 2 fades", x.stand(6) * 8 + x.stand(5), 2 * 8 + 4);
        // Seed 9, X 151263: 0, its head to 1; 2 dies.
        check.due("the one that was dead is not counted", x.drawn(1, 9, 0), 1);
        check.due("the longest", x.drawn(60, 999999, 1), 0);
    }

    /** Read plainly: by a draw of the same one, a new round begins, too. */
    private static void beginsRoundsByDraws() {
        WinkCircle x = Check.of("w0,1;r1,9;s0,9;s0,9;s0,9;");
        x.ticks(1);
        check.due("found out", x.stand(3), 1);
        // Seed 4, X 67228: 0, not by 3: the murderer again, who looks at 3, seen by 1 and 2.
        check.due("found out again", x.drawn(1, 4, 1), 1);
        // Seed 1, X 16807: 3 is the murderer, at which 0 looks, who roves on to it: 0 fades, none sees it.
        check.due("found out no more", x.drawn(1, 1, 1), 0);
        x = Check.of("w0,1;r1,1;s0,1;s0,1;s0,1;");
        x.ticks(1);
        check.due("2, who faded ahead, dies in it", x.drawn(1, 4, 0), 1);
    }

    private static void refusesDraws() {
        check.due("STATE ahead of BAD", new WinkCircle().drawn(61, 0, 0), STATE);
        WinkCircle x = Check.of(QUICK);
        check.due("n -1", x.drawn(-1, 1, 0), BAD);
        check.due("n 61", x.drawn(61, 1, 0), BAD);
        check.due("seed 0", x.drawn(1, 0, 0), BAD);
        check.due("seed 1000000", x.drawn(1, 1000000, 0), BAD);
        check.due("seed 999999", x.drawn(0, 999999, 0), 0);
        check.due("what 2", x.drawn(1, 1, 2), BAD);
        check.due("what -1", x.drawn(1, 1, -1), BAD);
    }
}
