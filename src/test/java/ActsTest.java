/** Promises 10 to 16, 31, 32 and 37: ticks and other acts, what stands, images. */
public final class ActsTest {
    private static final int NONE = WinkCircle.NONE, BAD = WinkCircle.BAD;
    private static final int STATE = WinkCircle.STATE, FULL = WinkCircle.FULL;

    private static final Check check = new Check("ActsTest");

    public static void main(String[] args) {
        looksByKind();
        looksPastTheDead();
        winksAndFades();
        sees();
        tells();
        stopsWinking();
        passesTicks();
        turnsHeads();
        givesRoles();
        changesProof();
        rises();
        tellsOfPlayers();
        keepsImages();
        check.end();
    }

    private static void looks(WinkCircle x, int player, int... seats) {
        for (int t = 0; t < seats.length; t++) {
            check.due("player " + player + " looks ahead by " + t, x.ahead(player, t, 1), seats[t]);
        }
    }

    private static void looksByKind() {
        WinkCircle x = Check.of("w1,9;r3,1;s4,1;b1,1;h0,1;d0,1;");
        looks(x, 0, 3, 4, 1, 2, 3, 4);
        looks(x, 1, 4, 4, 4, 4);
        looks(x, 2, 1, 0, 4, 3, 1, 0);
        looks(x, 3, 0, 4, 4, 4);
        looks(x, 4, 0, 0, NONE, 0, NONE);
        x.ticks(1);
        looks(x, 4, 0, NONE, 0, NONE);
        check.due("a shy one's head", x.turnHead(3, 1), 4);
        check.due("a dozer's head", x.turnHead(4, 2), 0);
        looks(x, 3, 1, 4);
        looks(x, 4, 2, NONE, 0);
    }

    private static void looksPastTheDead() {
        WinkCircle x = Check.of("w0,9;s1,1;s0,1;h0,1;r0,1;");
        check.due("1 is dead", x.ticks(2), 2);
        check.due("the dead look at none", x.player(1, 1), NONE);
        check.due("a rover looks at seats of the dead", x.ahead(3, 2, 1), 1);
        x = Check.of("w0,9;s1,1;s0,1;b0,1;h0,1;");
        x.ticks(1);
        check.due("a shy one looks at the one that fades, if it is next", x.player(3, 1), 0);
        x = Check.of("w1,9;h1,1;s2,1;s1,1;s0,1;");
        check.due("2 is dead", x.ticks(2), 4);
        x.role(0);
        x.turnHead(1, 0);
        check.due("by who is dead as the tick begins: 1 fades", x.ticks(1), 4);
        check.due("0 looks at 1 yet, that dies in this tick", x.ticks(1), 6);
        check.due("0 looks at 1", x.player(0, 1), 1);
        x.ticks(1);
        check.due("0 looks past the dead", x.player(0, 1), 3);
        x = Check.of("w0,9;s1,1;s0,1;h0,1;");
        x.ticks(2);
        x.turnHead(0, 2);
        x.role(2);
        x.turnHead(2, 0);
        check.due("0 looks at 2, 2 at 0", x.player(0, 1), 2);
        check.due("all but 2 are dead", x.ticks(2), 3);
        check.due("2 looked at 0 yet", x.player(2, 1), 0);
        x.ticks(1);
        check.due("2 has none to look at", x.player(2, 1), NONE);
        check.due("3 of 3 do not look at 2", x.player(2, 5), 0);
        x = Check.of("w0,9;s1,9;r2,1;b0,1;s1,1;");
        x.turnHead(1, 3);
        check.due("1, a rover, is dead", x.ticks(2), 2);
        check.due("it looks at none", x.player(1, 1), NONE);
        x.ticks(3);
        check.due("and does so from then on", x.player(1, 1), NONE);
        x.turnHead(0, 2);
        x.turnHead(2, 1);
        check.due("2, that roves back, too", x.ticks(3), 6);
        check.due("looks at none", x.player(2, 1), NONE);
    }

    private static void winksAndFades() {
        WinkCircle x = Check.of("w0,9;s1,3;s0,3;s1,1;");
        check.due("none is dead", x.ticks(1), 0);
        check.due("1 fades", x.player(1, 0), 1);
        check.due("left", x.player(1, 3), 3);
        check.due("0 lives", x.player(0, 0), 0);
        check.due("2 looks elsewhere and saw nothing", x.count(5), 0);
        x.ticks(1);
        check.due("left is 1 less, no second wink", x.player(1, 3), 2);
        x.ticks(1);
        check.due("left 1", x.player(1, 3), 1);
        check.due("dead", x.ticks(1), 2);
        check.due("left 0", x.player(1, 3), 0);
        check.due("it is so", x.player(1, 0), 2);
        check.due("one is dead", x.count(4), 1);
    }

    private static void sees() {
        WinkCircle x = Check.of("w0,9;r0,9;s0,2;s0,9;s0,9;r0,1;");
        x.ticks(1);
        check.due("2 fades", x.stand(5), 4);
        check.due("1 saw it", x.player(1, 4), 1);
        check.due("2 did not see its own", x.player(2, 4), 0);
        check.due("3 saw it", x.player(3, 4), 1);
        check.due("4 looks at 1 then", x.player(4, 4), 0);
        check.due("the murderer sees none", x.player(0, 4), 0);
        x.ticks(1);
        check.due("3 fades", x.stand(5), 12);
        check.due("one that fades sees, too", x.player(2, 4), 1);
        check.due("1 saw it twice", x.player(1, 4), 2);
        check.due("all together", x.count(5), 4);
        x.ticks(2);
        check.due("1 fades as well", x.stand(5), 14);
        check.due("1 saw its own no more", x.player(1, 4), 2);
        check.due("2 saw another", x.player(2, 4), 2);
        x = Check.of("w2,1;s2,1;s2,1;s1,1;");
        x.ticks(1);
        check.due("0 saw it", x.player(0, 4), 1);
        check.due("all together, 0 alone", x.count(5), 1);
        check.due("0 tells", x.stand(3), 1);
        x.role(1);
        check.due("0 forgets it by another murderer", x.player(0, 4), 0);
        x = Check.of("w7,1;s7,1;s7,1;s7,1;s7,1;s7,1;s7,1;s7,1;s0,1;");
        check.due("with eight", x.ticks(2), 1);
        check.due("six saw it", x.count(5), 6);
    }

    private static void tells() {
        WinkCircle x = Check.of("w0,2;r0,1;s0,9;s0,9;s0,9;");
        x.ticks(1);
        check.due("once is not enough", x.stand(3), 0);
        x.ticks(1);
        check.due("twice is", x.stand(3), 1);
        check.due("1 saw it twice", x.player(1, 4), 2);
        x = Check.of("w0,9;r0,1;s0,9;s0,9;s0,9;r1,1;r1,1;");
        x.ticks(1);
        check.due("1 and 3 saw it", x.player(1, 4) + x.player(3, 4), 2);
        x.proof(1);
        check.due("no wink by that", x.stand(3), 0);
        x.undo();
        x = Check.of("w0,9;s1,1;s0,1;s0,1;");
        x.ticks(1);
        x.proof(1);
        x.ticks(1);
        check.due("without a wink nobody tells", x.stand(3), 0);
        x = Check.of("w0,9;r0,9;s0,9;s0,9;s0,9;");
        x.ticks(1);
        x.turnHead(1, 2);
        x.proof(1);
        x.turnHead(2, 1);
        x.ticks(1);
        check.due("3 fades, who saw it once", x.player(3, 0), 1);
        check.due("only those who see a wink tell", x.stand(3), 0);
    }

    private static void stopsWinking() {
        WinkCircle x = Check.of("w0,1;r0,9;s0,9;s0,9;s0,9;");
        x.ticks(6);
        check.due("found out by the first wink, no more fade", x.stand(5), 4);
        check.due("each saw one", x.count(5), 2);
        x = Check.of("w0,9;s1,9;s0,1;s1,9;");
        x.ticks(2);
        x.role(1);
        x.turnHead(2, 1);
        x.ticks(3);
        check.due("a dead murderer does not wink", x.stand(5), 0);
        x.rise(1);
        x.turnHead(1, 0);
        x.ticks(1);
        check.due("one that sits up does", x.stand(5), 1);
        x = Check.of("w0,9;s1,9;s0,9;s1,9;");
        x.ticks(1);
        x.role(1);
        x.turnHead(1, 2);
        x.ticks(1);
        check.due("a murderer that fades winks", x.stand(5), 6);
    }

    private static void passesTicks() {
        WinkCircle x = new WinkCircle();
        check.due("STATE ahead of BAD", x.ticks(0), STATE);
        x = Check.of("w0,9;s1,1;s0,1;s1,1;");
        check.due("ticks 0", x.ticks(0), BAD);
        check.due("ticks 25", x.ticks(25), BAD);
        check.due("ticks -1", x.ticks(-1), BAD);
        check.due("ticks, the greatest", x.ticks(Integer.MAX_VALUE), BAD);
        check.due("ticks 24", x.ticks(24), 2);
        check.due("an act each", x.count(6), 24);
        for (int i = 0; i < 40; i++) {
            x.ticks(24);
        }
        check.due("TICK 984", x.count(3), 984);
        check.due("above 999", x.ticks(16), FULL);
        check.due("TICK stays", x.count(3), 984);
        check.due("up to 999", x.ticks(15), 2);
        check.due("TICK 999", x.count(3), 999);
        check.due("not one more", x.ticks(1), FULL);
        check.due("BAD ahead of FULL", x.ticks(0), BAD);
        check.due("it can be foretold", x.toll(60, 0), 2);
        x.undo();
        check.due("room by undoing", x.ticks(1), 2);
    }

    private static void turnsHeads() {
        WinkCircle x = Check.of("w0,9;s1,1;s0,1;d1,1;");
        check.due("to another seat", x.turnHead(0, 2), 1);
        check.due("it looks there", x.player(0, 1), 2);
        check.due("it looks there already", x.turnHead(0, 2), STATE);
        check.due("its own", x.turnHead(0, 0), BAD);
        check.due("no such seat", x.turnHead(0, 3), BAD);
        check.due("seat -1", x.turnHead(0, -1), BAD);
        check.due("no such player", x.turnHead(3, 0), BAD);
        check.due("player -1", x.turnHead(-1, 0), BAD);
        check.due("back", x.turnHead(0, 1), 2);
        check.due("three turns were one act each", x.count(6), 2);
        x.ticks(2);
        check.due("the dead", x.turnHead(1, 2), STATE);
        check.due("the dead, BAD first", x.turnHead(1, 1), BAD);
        check.due("from none", x.turnHead(2, 0), NONE);
    }

    private static void givesRoles() {
        WinkCircle x = Check.of("w0,1;s1,1;s0,1;s0,1;");
        x.ticks(2);
        check.due("found out", x.stand(3), 1);
        check.due("2 saw it", x.player(2, 4), 1);
        check.due("it is that one", x.role(0), STATE);
        check.due("no such one", x.role(3), BAD);
        check.due("role -1", x.role(-1), BAD);
        check.due("still found out", x.stand(3), 1);
        check.due("another", x.role(2), 0);
        check.due("who", x.stand(1), 2);
        check.due("count tells it, too", x.count(2), 2);
        check.due("nobody saw any more", x.count(5), 0);
        check.due("not found out", x.stand(3), 0);
        check.due("even a dead one", x.role(1), 2);
    }

    private static void changesProof() {
        WinkCircle x = new WinkCircle();
        check.due("STATE ahead of BAD", x.proof(0), STATE);
        x = Check.of("w0,3;s1,1;s0,1;s0,1;");
        check.due("proof 0", x.proof(0), BAD);
        check.due("proof 10", x.proof(10), BAD);
        check.due("proof 9", x.proof(9), 3);
        check.due("proof 1", x.proof(1), 9);
        check.due("it is 1", x.stand(2), 1);
        x.ticks(1);
        check.due("by which it is found out", x.stand(3), 1);
        x.proof(9);
        check.due("and stays so", x.stand(3), 1);
    }

    private static void rises() {
        WinkCircle x = Check.of("w0,9;r0,1;s0,1;s0,1;s0,1;");
        x.ticks(3);
        check.due("2 and 3 are dead", x.stand(6), 12);
        check.due("3 saw two, fading by the second", x.player(3, 4), 2);
        check.due("no such one", x.rise(4), BAD);
        check.due("rise -1", x.rise(-1), BAD);
        check.due("one that lives", x.rise(0), STATE);
        check.due("one that fades", x.rise(1), STATE);
        check.due("3 sits up", x.rise(3), 4);
        check.due("lives", x.player(3, 0), 0);
        check.due("saw none", x.player(3, 4), 0);
        check.due("looks at the next above, round", x.player(3, 1), 0);
        check.due("left none", x.player(3, 3), 0);
        check.due("its kind is as it was", x.kind(3), 2);
        check.due("2 sits up", x.rise(2), 0);
        check.due("looks at the next above", x.player(2, 1), 3);
        check.due("twice", x.rise(2), STATE);
    }

    private static void tellsOfPlayers() {
        WinkCircle x = Check.of("w2,4;s1,5;s0,6;s1,7;");
        check.due("how", x.player(0, 0), 0);
        check.due("seat", x.player(0, 1), 1);
        check.due("slow", x.player(2, 2), 7);
        check.due("left", x.player(0, 3), 0);
        check.due("saw", x.player(0, 4), 0);
        check.due("who looks at it", x.player(1, 5), 5);
        check.due("what -1", x.player(0, -1), BAD);
        check.due("what 6", x.player(0, 6), BAD);
        check.due("player -1", x.player(-1, 0), BAD);
        check.due("player 3", x.player(3, 0), BAD);
        check.due("players", x.stand(0), 3);
        check.due("murderer", x.stand(1), 2);
        check.due("proof", x.stand(2), 4);
        check.due("found out", x.stand(3), 0);
        check.due("live", x.stand(4), 7);
        check.due("fade", x.stand(5), 0);
        check.due("dead", x.stand(6), 0);
        check.due("stand -1", x.stand(-1), BAD);
        check.due("stand 7", x.stand(7), BAD);
        check.due("STATE ahead of BAD", new WinkCircle().stand(7), STATE);
        Check.feedAll(x, "w0");
        check.due("bytes", x.count(7), 2);
        x.row(3, 0, 0);
        check.due("rows", x.count(0), 1);
        check.due("count -1", x.count(-1), BAD);
        check.due("count 8", x.count(8), BAD);
    }

    private static void keepsImages() {
        WinkCircle x = new WinkCircle();
        check.due("BAD ahead of STATE", x.image(2), BAD);
        check.due("image -1", x.image(-1), BAD);
        check.due("no circle", x.image(0), STATE);
        check.due("restore 2", x.restore(2), BAD);
        check.due("restore -1", x.restore(-1), BAD);
        Check.feedAll(x, "w0,1;s1,1;s0,1;s0,1;");
        x.circle();
        check.due("none was kept", x.restore(1), STATE);
        x.ticks(1);
        check.due("image 0", x.image(0), 1);
        check.due("an image is no act", x.count(6), 1);
        x.ticks(2);
        check.due("image 1", x.image(1), 1);
        Check.feedAll(x, "w3,2;h1,1;d0,1;b0,1;r0,9;");
        x.circle();
        x.ticks(5);
        check.due("restore", x.restore(0), 1);
        check.due("no act can be undone", x.undo(), STATE);
        check.due("players", x.stand(0), 3);
        check.due("murderer", x.stand(1), 0);
        check.due("proof", x.stand(2), 1);
        check.due("found out", x.stand(3), 1);
        check.due("1 fades", x.stand(5), 2);
        check.due("TICK", x.count(3), 1);
        check.due("saw", x.count(5), 1);
        check.due("kind", x.kind(0), 2);
        x.ticks(3);
        x.role(2);
        check.due("restore again", x.restore(0), 1);
        check.due("the image did not change", x.player(1, 3), 1);
        check.due("the other image", x.restore(1), 1);
        check.due("1 is dead", x.stand(6), 2);
        check.due("TICK 3", x.count(3), 3);
        check.due("1 was kept, 0 is replaced", x.image(0), 1);
        x.ticks(1);
        x.restore(0);
        check.due("as it was kept last", x.count(3), 3);
    }
}
