/** Promises 2 to 5 and 38: rows, and the finding of the latest call with one. */
public final class RowsTest {
    private static final int BAD = WinkCircle.BAD;
    private static final int NULL = -1000011, PLACE = -1000012, SIZE = -1000014, STORE = -1000015;
    /** Nobody is dead behind one tick, one is behind two and more; of player 1 the slowness 1 fits that. */
    private static final String QUICK = "w0,1;s1,1;s0,1;s0,1;";

    private static final Check check = new Check("RowsTest");

    public static void main(String[] args) {
        makesRows();
        setsItems();
        copiesItems();
        refusesCopies();
        dropsRows();
        tellsFindings();
        check.end();
    }

    private static void makesRows() {
        WinkCircle x = Check.of(QUICK);
        check.due("row of bytes", x.row(0, 0, 3), 3);
        check.due("row of ints, the longest", x.row(7, 2, 40), 40);
        check.due("row of shorts, none in it", x.row(3, 1, 0), 0);
        check.due("three rows", x.count(0), 3);
        check.due("row -1", x.row(-1, 0, 1), BAD);
        check.due("row 8", x.row(8, 0, 1), BAD);
        check.due("lane -1", x.row(0, -1, 1), BAD);
        check.due("lane 3", x.row(0, 3, 1), BAD);
        check.due("41 items", x.row(0, 0, 41), BAD);
        check.due("BAD ahead of SIZE, row", x.row(8, 0, -1), BAD);
        check.due("BAD ahead of SIZE, lane", x.row(0, 3, -1), BAD);
        check.due("fewer than none", x.row(0, 0, -1), SIZE);
        check.due("least int", x.row(0, 0, Integer.MIN_VALUE), SIZE);
        check.due("the row is still there", x.set(0, 2, 9), 9);
        check.due("the first item, too", x.set(0, 0, 9), 9);
        check.due("items are not 0", x.who(1, 3, 0, 2, 1), 0);
        check.due("in place of what was there", x.row(0, 1, 3), 3);
        check.due("items are 0 at first", x.who(1, 3, 0, 2, 1), 1022);
        check.due("the first item is", x.who(1, 3, 0, 0, 1), 1022);
        check.due("still three rows", x.count(0), 3);
        check.due("its lane is new", x.set(0, 0, 300), 300);
        check.due("a row of none has no place", x.set(3, 0, 1), PLACE);
    }

    private static void setsItems() {
        WinkCircle x = new WinkCircle();
        x.row(0, 0, 2);
        x.row(1, 1, 2);
        x.row(2, 2, 2);
        check.due("byte 127", x.set(0, 0, 127), 127);
        check.due("byte 200", x.set(0, 0, 200), -56);
        check.due("byte 256", x.set(0, 1, 256), 0);
        check.due("byte -129", x.set(0, 1, -129), 127);
        check.due("short 32767", x.set(1, 0, 32767), 32767);
        check.due("short 40000", x.set(1, 0, 40000), -25536);
        check.due("short 65536", x.set(1, 1, 65536), 0);
        check.due("int", x.set(2, 1, Integer.MIN_VALUE), Integer.MIN_VALUE);
        check.due("row -1", x.set(-1, 0, 0), BAD);
        check.due("row 8", x.set(8, 0, 0), BAD);
        check.due("a missing row", x.set(3, 0, 0), NULL);
        check.due("a missing row, ahead of the place", x.set(3, -1, 0), NULL);
        check.due("place -1", x.set(0, -1, 0), PLACE);
        check.due("place 2 of 2", x.set(0, 2, 0), PLACE);
        check.due("place far off", x.set(0, Integer.MAX_VALUE, 0), PLACE);
        check.due("place far below", x.set(0, Integer.MIN_VALUE, 0), PLACE);
    }

    private static void copiesItems() {
        WinkCircle x = Check.of(QUICK);
        Check.fill(x, 0, 0, 0, 1, 0, 0);
        check.due("over itself, upwards", x.copy(0, 0, 0, 1, 3), 3);
        check.due("as they were ahead", x.who(1, 3, 0, 1, 2), 2);
        Check.fill(x, 1, 1, 5, 0, 1, 1);
        check.due("over itself, downwards", x.copy(1, 1, 1, 0, 3), 3);
        check.due("as they were ahead, too", x.who(1, 3, 1, 0, 4), 2);
        Check.fill(x, 2, 2, 0, 0, 1);
        Check.fill(x, 3, 2, 7, 7, 7, 7, 7);
        check.due("to another row", x.copy(2, 0, 3, 2, 3), 3);
        check.due("it came there", x.who(1, 3, 3, 2, 3), 4);
        check.due("the others stay", x.who(1, 3, 3, 1, 1), 0);
        check.due("none at the end", x.copy(2, 3, 3, 5, 0), 0);
    }

    private static void refusesCopies() {
        WinkCircle x = new WinkCircle();
        x.row(0, 0, 3);
        x.row(1, 0, 2);
        x.row(2, 1, 3);
        check.due("row -1", x.copy(-1, 0, 1, 0, 1), BAD);
        check.due("to row 8", x.copy(0, 0, 8, 0, 1), BAD);
        check.due("BAD ahead of NULL", x.copy(5, 0, 8, 0, 1), BAD);
        check.due("a missing one", x.copy(5, 0, 1, 0, 1), NULL);
        check.due("to a missing one", x.copy(0, 0, 5, 0, 1), NULL);
        check.due("NULL ahead of PLACE", x.copy(0, -1, 5, 0, 1), NULL);
        check.due("two lanes", x.copy(0, 0, 2, 0, 1), STORE);
        check.due("STORE ahead of PLACE", x.copy(0, -1, 2, 0, 9), STORE);
        check.due("i below", x.copy(0, -1, 1, 0, 1), PLACE);
        check.due("j below", x.copy(0, 0, 1, -1, 1), PLACE);
        check.due("n below", x.copy(0, 0, 1, 0, -1), PLACE);
        check.due("beyond a's end", x.copy(0, 2, 1, 0, 2), PLACE);
        check.due("beyond b's end", x.copy(0, 0, 1, 1, 2), PLACE);
        check.due("a sum that would wrap", x.copy(0, Integer.MAX_VALUE, 1, 0, Integer.MAX_VALUE), PLACE);
        check.due("the least n", x.copy(0, 0, 1, 0, Integer.MIN_VALUE), PLACE);
        check.due("none beyond the end", x.copy(0, 4, 1, 0, 0), PLACE);
    }

    private static void dropsRows() {
        WinkCircle x = new WinkCircle();
        x.row(4, 1, 6);
        check.due("drop -1", x.drop(-1), BAD);
        check.due("drop 8", x.drop(8), BAD);
        check.due("drop a missing one", x.drop(0), NULL);
        check.due("drop", x.drop(4), 6);
        check.due("no row", x.count(0), 0);
        check.due("it is missing", x.set(4, 0, 0), NULL);
        check.due("twice", x.drop(4), NULL);
        x.row(4, 1, 0);
        check.due("a row of none", x.drop(4), 0);
    }

    private static void tellsFindings() {
        WinkCircle x = Check.of(QUICK);
        check.due("none yet", x.status(), 0);
        x.set(0, 0, 0);
        check.due("NULL", x.status(), 1);
        x.row(9, 0, 0);
        check.due("BAD leaves it", x.status(), 1);
        x.feed(300);
        x.undo();
        x.count(0);
        check.due("calls without a row leave it", x.status(), 1);
        x.row(0, 0, 1);
        check.due("none by row", x.status(), 0);
        x.set(0, 1, 0);
        check.due("PLACE", x.status(), 2);
        x.set(0, 0, 0);
        check.due("none by set", x.status(), 0);
        x.as(0, 5);
        check.due("KIND", x.status(), 3);
        x.as(0, 6);
        check.due("as, BAD", x.status(), 3);
        x.as(0, 0);
        check.due("none by as", x.status(), 0);
        x.row(0, 0, -1);
        check.due("SIZE", x.status(), 4);
        x.who(0, 0, 0, 0, 1);
        check.due("none by who", x.status(), 0);
        x.row(1, 1, 1);
        x.copy(0, 0, 1, 0, 1);
        check.due("STORE", x.status(), 5);
        x.copy(0, 0, 0, 0, 1);
        check.due("none by copy", x.status(), 0);
        x.drop(5);
        check.due("NULL by drop", x.status(), 1);
        x.drop(0);
        check.due("none by drop", x.status(), 0);
        x.who(0, 0, 0, 0, 1);
        check.due("NULL by who", x.status(), 1);
        x.who(0, 0, 1, 1, 1);
        check.due("PLACE by who", x.status(), 2);
        x.ticks(2);
        x.row(2, 0, 1);
        x.set(2, 7, 0);
        x.who(1, 2, 2, 0, 1);
        check.due("STATE leaves it", x.status(), 2);
    }
}
