import java.io.IOException;
import java.nio.file.Files;
import java.nio.file.Path;
import java.util.regex.Matcher;
import java.util.regex.Pattern;

/**
 * The document from its first term to its last promise, in its own order: each quote begins where the one before
 * ended, so that no word of it is left out, and has a run whose answers were found from these words by hand.
 */
public final class WalkTest {
    /** Headings and signs of the page between what it says; the face is looked at by FaceTest. */
    private static final Pattern BETWEEN = Pattern.compile(
        "(?:\\s|```text|```|======== \\d|## Terms|## Not promised|## Promise \\d+: (?:A new object|\\w+)|`[\\w ,()]+`:)*");

    /** Murderer 1 winks at 0 by the first tick, and 2 sees it; 0 is dead behind three; the shy 3 looks at 0, then at 1. */
    private static final String FOUR = "tell w1,3;s1,2;s0,5;s1,1;h0,4; = 4\n";
    /** Murderer 2 winks at 0 by the first tick, 1 sees it and tells; 0 is dead behind four. */
    private static final String TOLD = "tell w2,1;s2,3;s2,1;s0,9; = 3\n";
    /** The looks of the rovers go to and fro: 2 0 0, 1 2 1, 2 0 0; so 0 winks at 2 by the second tick. */
    private static final String ROVERS = "tell w0,9;r2,1;r0,1;r0,1; = 3\n";
    /** The rover 0 winks at 2, 3 and 1 by ticks 1, 2 and 3, and is never told of. */
    private static final String ROUND = "tell w0,9;r1,9;s0,9;s0,9;s0,9; = 4\n";
    /** One of each kind, in the order of the kinds; nobody winks in the first tick. */
    private static final String KINDS = "tell w0,9;r2,1;s4,2;b1,3;h0,4;d0,5; = 5\n";

    private static final Runs runs = new Runs("WalkTest");
    private static final Check check = new Check("WalkTest, the order");
    private static String document;
    private static int at;

    public static void main(String[] args) throws IOException {
        document = Files.readString(Path.of("../shared/DOC.md")).replaceAll("\\s+", " ").trim();
        at = Math.max(0, document.indexOf("## Terms"));
        terms();
        rowsAndTapes();
        texts();
        faults();
        looks();
        winks();
        acts();
        foretold();
        best();
        setsAndShares();
        turnsAndGuesses();
        sleepAndGames();
        kindsAndAsks();
        sections();
        promisesOfRows();
        promisesOfTexts();
        promisesOfActs();
        promisesOfWhatStands();
        promisesForetold();
        promisesOfBest();
        promisesOfGuesses();
        promisesOfImages();
        promisesAsked();
        notPromised();
        check.due("the walk comes to the document's end", at, document.length());
        runs.cover(1, 38);
        check.end();
        runs.end();
    }

    private static void says(String sentence) {
        Matcher between = BETWEEN.matcher(document).region(at, document.length());
        int begin = between.lookingAt() ? between.end() : at;
        boolean next = document.startsWith(sentence, begin);
        check.holds("here the document says '" + sentence + "', not '"
            + document.substring(begin, Math.min(document.length(), begin + 60)) + "'", next);
        at = next ? begin + sentence.length() : at;
    }

    private static void holds(int promise, String sentence, String lines) {
        says(sentence);
        runs.holds(promise, sentence, lines);
    }

    private static void terms() {
        holds(15, "Numbers go from 0 on.", FOUR + "player 0 2 = 2 / player 3 2 = 4 / player 4 2 = BAD / player -1 2 = BAD");
        holds(29, "All that is divided is cut towards 0, but fractions, told as two numbers in lowest terms (0 is 0 by 1).", TOLD
            + "sleep 1 4 0 = 9 / sleep 1 4 1 = 25 / sleep 0 4 0 = 0 / sleep 0 4 1 = 1\n"
            + ROUND + "ticks 1 / share 1 5 = 3 / share 3 5 = 2");
        holds(16, "Sets are bits.", FOUR + "stand 4 = 15 / ticks 1 / stand 4 = 14 / stand 5 = 1");
        holds(38, "Refusals are answers, the first of these that fits, but as told: BAD (a number is not as told; there is no such "
            + "thing), STATE (as told), FULL (as told), then FINDINGS, of several the first in time: -1000010 less 1 NULL (a ROW "
            + "that is missing), 2 PLACE (no such place of a ROW), 3 KIND (a PLAYER that is not that), 4 SIZE (fewer than none), "
            + "5 STORE (ROWS of two LANES).", KINDS + """
            set 9 0 0 = -1000001 / undo = -1000002 / 100 * feed 'a / feed 'a = -1000003 / feed 256 = -1000001
            set 0 0 0 = -1000011 / row 0 0 1 / set 0 1 0 = -1000012 / as 0 4 = -1000013 / row 0 0 -1 = -1000014
            row 1 1 1 / copy 0 0 1 0 1 = -1000015 / copy 0 5 1 5 5 = -1000015 / copy 0 5 2 5 5 = -1000011
            """);
        says("What is refused, or found, changes nothing but status().");
        runs.refused(38, "What is refused, or found, changes nothing but status().", TOLD + "ticks 4 / row 0 0 3 / row 1 1 3 / row 2 0 0",
            "copy 0 0 1 0 1 = STORE / set 0 3 9 = PLACE / row 0 1 -1 = SIZE / row 0 3 1 = BAD / rise 1 = STATE / as 0 5 = KIND");
    }

    private static void rowsAndTapes() {
        holds(2, "ROWS 0 .. 7 are missing (at first), or have a LANE (0 bytes, 1 shorts, 2 ints) and 0 to 40 ITEMS, 0 at first.", FOUR + """
            count 0 = 0 / drop 0 = NULL / drop 7 = NULL / row 0 0 40 = 40 / row 7 2 0 = 0 / row 3 1 1 = 1 / count 0 = 3
            set 0 0 128 = -128 / set 3 0 32768 = -32768 / who 0 0 0 1 2 = 15 / who 0 0 0 38 2 = 15 / row 0 0 41 = BAD
            """);
        holds(6, "TEXTS: THE TAPE has at most 100 bytes, that come one by one;", """
            feed 0 = 1 / feed 255 = 2 / 97 * feed 'w / feed 'w = 100 / feed 'w = FULL / count 7 = 100
            """);
    }

    private static void texts() {
        holds(7, "TOKENS: letters a to z (each by itself), NUMBERS (figures, 2 at most), SIGNS , and ; nothing else.", """
            tell w02,09;r01,01;r2,5;r00,9; = 3 / stand 1 = 2 / stand 2 = 9 / player 0 1 = 1 / player 1 2 = 5
            tell w0,1;rr1,1; = F6 / fault = 1 / tell w002,1; = F1 / fault = 1 / tell w0:1; = F2 / fault = 1
            """);
        holds(7, "circle: law player player player { player }.", """
            tell w0,1; = F5 / tell w0,1;r0,1; = F10 / tell w0,1;r0,1;r0,1; = F15 / tell w0,1;r0,1;r0,1;r0,1; = 3
            tell w0,1;r0,1;r0,1;r0,1;r0,1; = 4 / tell r0,1;r0,1;r0,1; = F0
            """);
        holds(7, "law: w MURDERER , PROOF ; (a PLAYER, perhaps one that there is not: then the last one; 0 to 7; 1 to 9).", """
            tell w7,9;r0,1;r0,1;r0,1;r0,1; = 4 / stand 1 = 3 / stand 2 = 9 / tell w8,1; = F1 / fault = 2 / tell w0,0; = F3 / fault = 2
            """);
        holds(7, "player: SORT LOOK , SLOW ; (SORT: r a rover, s a starer, b one that roves back, h a shy one, d a dozer; a SEAT, 0 to 7, "
            + "perhaps one that there is not, or its own: then it is the next SEAT above its own, round; 1 to 9; PLAYERS 0 .. 7, each on "
            + "the SEAT of its number, 3 to 8).", """
            tell w0,1;d7,1;h1,2;b4,3;s5,8;r4,9; = 5
            kind 0 = 5 / kind 1 = 4 / kind 2 = 3 / kind 3 = 2 / kind 4 = 1
            player 0 1 = 1 / player 1 1 = 2 / player 2 1 = 4 / player 3 1 = 4 / player 4 1 = 0
            player 0 2 = 1 / player 1 2 = 2 / player 2 2 = 3 / player 3 2 = 8 / player 4 2 = 9
            """);
        holds(7, "A CIRCLE that is read stands in place of the one before (none at first): TICK 0, all LIVE, nobody SAW a wink, it is not "
            + "FOUND OUT; no ACT can be undone.", "stand 0 = STATE\n" + TOLD + "ticks 5 = 1 / stand 3 = 1 / count 5 = 1 / count 6 = 5\n" + FOUR + """
            count 3 = 0 / stand 4 = 15 / count 5 = 0 / stand 3 = 0 / undo = STATE
            """);
    }

    private static void faults() {
        holds(8, "FAULTS, the first TOKEN that has one (its first byte), of one TOKEN the least:",
            "tell w9,99;x = F1 / fault = 2 / tell w1,99;x = F3 / fault = 2 / tell w1,100;x = F3 / fault = 1 / tell 99 = F0 / fault = 1");
        holds(8, "1 it cannot stand there, or is none (a run of three figures, at its first; the end: how many bytes there are);",
            "tell w1;1 = F2 / fault = 1 / tell w1,1234; = F3 / fault = 1 / tell w1,1;r = F6 / fault = 1 / tell = F0 / fault = 1");
        holds(8, "2 a NUMBER that is not as told;", "tell w1,1;r8,0; = F6 / fault = 2 / tell w1,1;r7,0; = F8 / fault = 2");
        String eight = "w0,1;r0,1;r0,1;r0,1;r0,1;r0,1;r0,1;r0,1;r0,1;";
        holds(8, "3 a player more than there is room for (its letter).", "tell " + eight + " = 8 / tell " + eight + "h9 = F45 / fault = 3 / tell "
            + eight + "a = F45 / fault = 1");
    }

    private static void looks() {
        holds(10, "A PLAYER LIVES, FADES (LEFT TICKS yet), or is DEAD.", FOUR + """
            player 0 0 = 0 / ticks 1 = 0 / player 0 0 = 1 / player 0 3 = 2 / ticks 1 = 0 / player 0 3 = 1 / ticks 1 = 1 / player 0 0 = 2
            """);
        holds(10, "It LOOKS at a SEAT that is not its own, or at none.", FOUR + "player 0 1 = 1 / ticks 3 / player 0 1 = NONE / turnHead 1 1 = BAD");
        holds(10, "A TICK: 1 each that is not DEAD looks anew, all at once, by who is DEAD as the TICK begins: a rover at the next SEAT above "
            + "the one at which it LOOKS (0 above the last), one more, if that is its own;", ROVERS + """
            ticks 1 = 0 / player 0 1 = 1 / player 1 1 = 2 / player 2 1 = 1 / stand 5 = 0
            ticks 1 = 0 / player 0 1 = 2 / player 1 1 = 0 / player 2 1 = 0 / stand 5 = 4 / player 1 4 = 1
            """);
        holds(10, "a starer where it did;", FOUR + "ticks 5 / player 2 1 = 1 / player 1 1 = 0");
        holds(10, "one that roves back as a rover, but below;", """
            tell w0,9;b1,1;b0,1;b1,1; = 3 / ticks 1 = 0 / player 0 1 = 2 / player 1 1 = 2 / player 2 1 = 0 / stand 5 = 4
            ticks 1 = 4 / player 0 1 = 1 / player 1 1 = 0 / player 2 1 = NONE / stand 5 = 2 / count 5 = 0
            """);
        holds(10, "a shy one at the next SEAT above its own, round, on which one is who is not DEAD (none, if there is none);", FOUR + """
            ticks 3 = 1 / player 3 1 = 0 / ticks 1 / player 3 1 = 1
            tell w0,9;s1,1;s0,1;h1,1; = 3 / ticks 2 = 2 / turnHead 0 2 = 1 / role 2 = 0 / ticks 2 = 3 / player 2 1 = 0 / ticks 1 / player 2 1 = NONE
            """);
        holds(10, "a dozer so in TICKS that are even, at none in odd ones.",
            "tell w0,9;s1,1;s2,1;d1,1; = 3 / ticks 1 / player 2 1 = 0 / ticks 1 / player 2 1 = NONE / ticks 1 / player 2 1 = 0");
        holds(10, "(A rover, one that roves back that looks at none looks at the next SEAT above its own, below it.)", """
            tell w1,9;s2,1;s2,1;d0,1; = 3 / ticks 2 = 0 / player 2 1 = NONE / row 0 0 3 / set 0 2 1 / who 2 1 0 0 3 = 2
            set 0 1 1 / who 2 1 0 0 3 = 8
            """);
        holds(10, "The DEAD look at none.", FOUR + "ticks 2 = 0 / player 1 5 = 5 / ticks 1 = 1 / player 1 5 = 4 / ticks 1 / player 1 5 = 12");
    }

    private static void winks() {
        holds(10, "2 if it is not FOUND OUT and the MURDERER is not DEAD: if it LOOKS at one that LIVES, who LOOKS at it, that one FADES: "
            + "LEFT is SLOW and 1; each other PLAYER that is not DEAD, is not the MURDERER, and LOOKS at the MURDERER SAW it once more "
            + "(99 at most): one that SAW it PROOF times or more tells: it is FOUND OUT.", TOLD + """
            ticks 1 = 0 / stand 5 = 1 / player 0 3 = 3 / player 0 4 = 0 / player 1 4 = 1 / player 2 4 = 0 / stand 3 = 1
            turnHead 2 1 = 0 / ticks 2 = 0 / stand 5 = 1 / ticks 1 = 1
            """);
        holds(10, "3 each that FADES: LEFT is 1 less; with 0 it is DEAD.", TOLD + "ticks 3 = 0 / player 0 3 = 1 / ticks 1 = 1 / player 0 3 = 0");
        holds(10, "TICK is 1 more.", TOLD + "ticks 1 / count 3 = 1 / ticks 24 / count 3 = 25");
    }

    private static void acts() {
        holds(9, "ACTS (24 at most are kept, of more the oldest is forgotten; each can be undone, the latest first):",
            FOUR + "ticks 24 / ticks 1 / count 6 = 24 / undo = 23 / count 3 = 24 / 23 * undo / count 3 = 1 / undo = STATE");
        holds(9, "a TICK; a head is turned (a PLAYER that is not DEAD LOOKS at another SEAT, not its own);",
            TOLD + "turnHead 1 0 = 2 / ticks 1 / count 6 = 2 / player 1 1 = 0 / undo = 1 / count 3 = 0 / undo = 0 / player 1 1 = 2");
        holds(9, "another one is the MURDERER (nobody SAW any more, it is not FOUND OUT);",
            TOLD + "ticks 1 / role 1 = 2 / stand 3 = 0 / count 5 = 0 / undo = 1 / stand 1 = 2 / stand 3 = 1 / player 1 4 = 1");
        holds(9, "PROOF is another; one that is DEAD sits up (LIVES, SAW 0, LOOKS at the next SEAT above its own).", TOLD + """
            ticks 4 = 1 / proof 4 = 1 / rise 0 = 0 / player 0 0 = 0 / player 0 1 = 1 / undo = 5 / player 0 0 = 2 / player 0 1 = NONE
            undo = 4 / stand 2 = 1 / undo = 3 / stand 5 = 1 / player 0 3 = 1 / player 0 1 = 2
            """);
    }

    private static void foretold() {
        says("FORETOLD (nothing changes).");
        runs.leavesAll(18, "FORETOLD (nothing changes).", TOLD + "ticks 1", "toll 60 0 = 1 / ahead 0 3 0 = 2 / out = 0 / drawn 9 1 0 / bestRole 9 0");
        holds(17, "AHEAD by n TICKS (0 to 60) of a PLAYER: how it is (0 LIVES, 1 FADES, 2 DEAD); the SEAT at which it LOOKS (NONE); what it SAW.",
            FOUR + """
            ahead 0 0 0 = 0 / ahead 0 1 0 = 1 / ahead 0 2 0 = 1 / ahead 0 3 0 = 2 / ahead 0 2 1 = 1 / ahead 0 3 1 = NONE
            ahead 3 3 1 = 0 / ahead 3 4 1 = 1 / ahead 2 0 2 = 0 / ahead 2 60 2 = 1 / ahead 2 61 2 = BAD
            """);
        holds(18, "TOLL behind n TICKS (0 to 60): who is DEAD (bits); whether it is FOUND OUT (1, 0).", FOUR + "toll 2 0 = 0 / toll 3 0 = 1 / toll 60 1 = 0\n"
            + TOLD + "toll 0 1 = 0 / toll 1 1 = 1 / toll 60 0 = 1 / toll 61 0 = BAD");
        holds(19, "WHEN a PLAYER is not living (FADES or DEAD), DEAD: behind how many TICKS (0 to 60) first; NONE.",
            FOUR + "when 0 1 = 1 / when 0 2 = 3 / when 1 1 = NONE / ticks 3 / when 0 1 = 0 / when 0 2 = 0");
        holds(20, "OUT: behind how many TICKS (0 to 60) it is FOUND OUT first; NONE.", TOLD + "out = 1 / ticks 2 / out = 0\n" + FOUR + "out = NONE");
        holds(21, "MEET of two PLAYERS: behind how many TICKS (0 to 60) each LOOKS at the other's SEAT first; NONE.",
            ROVERS + "meet 0 2 = 0 / meet 1 2 = 1 / meet 2 1 = 1 / meet 0 1 = NONE / ticks 1 / meet 2 0 = 1");
    }

    private static void best() {
        holds(22, "ROLE for n TICKS (1 to 40): the PLAYER who, being the MURDERER from now on, leaves most DEAD behind them, of several the "
            + "first: who; how many.", FOUR + """
            bestRole 2 0 = 0 / bestRole 2 1 = 0 / bestRole 3 0 = 1 / bestRole 3 1 = 1 / bestRole 6 0 = 0 / bestRole 6 1 = 1
            """);
        holds(23, "GLANCE for n TICKS (1 to 40): the SEAT at which the MURDERER should look now, by which most are DEAD behind them, of "
            + "several the least: which; how many; NONE: it is DEAD.", FOUR + """
            glance 1 0 = 0 / glance 1 1 = 0 / glance 2 0 = 2 / glance 2 1 = 1 / glance 3 0 = 0 / glance 3 1 = 1
            ticks 3 / role 0 / glance 3 0 = NONE / glance 3 1 = NONE
            """);
        holds(24, "PASS for n TICKS (1 to 40): the least PROOF (1 to 9) by which it is not FOUND OUT behind them; NONE.",
            ROUND + "pass 1 = 2 / pass 2 = 3 / pass 40 = 3\n" + TOLD + "pass 1 = 2 / ticks 1 / pass 1 = NONE");
    }

    private static void setsAndShares() {
        holds(25, "SETS of v (0 to 99): sets of PLAYERS that are not DEAD who SAW v winks together: how many; PLAYERS (bits) that are in all "
            + "of these (none: 0); in any.", FOUR + """
            ticks 1 / sets 1 0 = 8 / sets 1 1 = 4 / sets 1 2 = 15 / sets 0 0 = 8 / sets 0 1 = 0 / sets 0 2 = 11 / sets 2 0 = 0 / sets 2 1 = 0
            ticks 2 = 1 / sets 1 0 = 4 / sets 1 1 = 4 / sets 1 2 = 14 / sets 99 2 = 0 / sets 100 2 = BAD
            """);
        holds(26, "SHARE of n (0 to 999): each PLAYER gets as many as n times what it SAW by what all SAW (cut), what is over 1 each to the "
            + "first ones that SAW any: how many a PLAYER gets (0, if none did).", ROUND + """
            share 1 999 = 0 / ticks 2 / share 0 7 = 0 / share 1 7 = 4 / share 2 7 = 2 / share 3 7 = 1 / share 1 1 = 1 / share 2 1 = 0
            """);
    }

    private static void turnsAndGuesses() {
        holds(27, "TURNS of two, n in all (0 to 3), m TICKS (1 to 20): the one turns the head of the MURDERER to another SEAT, not its own, or "
            + "does nothing (also if it is DEAD), then the other one turns that of the next PLAYER above it, round, likewise, and so on with "
            + "these two heads, all now; then m TICKS: how many are DEAD; the one wants that great, the other little: what comes of it.", FOUR + """
            byTurns 0 2 = 0 / byTurns 1 2 = 1 / byTurns 2 2 = 0 / byTurns 3 2 = 0
            byTurns 0 3 = 1 / byTurns 1 3 = 1 / byTurns 2 3 = 1 / byTurns 3 3 = 1
            """);
        holds(28, "A row tells how many are DEAD behind each of n TICKS (1 to 12) from now on. MURDERERS (bits) from now on, KINDS (bits 1 to 5) "
            + "of a PLAYER, LOOKS of it (SEATS, bits, not its own), SLOWNESSES (1 to 9, bits), by which it is so.", FOUR + """
            row 0 0 3 / set 0 2 1 / who 0 0 0 0 3 = 2 / who 0 1 0 0 3 = 52 / who 0 2 0 0 3 = 2 / who 0 3 0 0 3 = 4
            who 0 0 0 0 2 = 15 / who 0 1 0 0 2 = 62 / who 0 2 0 0 2 = 14 / who 0 3 0 0 2 = 1020
            """);
    }

    private static void sleepAndGames() {
        holds(29, "SLEEP by p of 10 (0 to 10): each PLAYER that is neither DEAD nor the MURDERER falls asleep now in p of 10 cases, apart (it "
            + "LOOKS at none from now on): how likely it is FOUND OUT behind n TICKS (0 to 60): a fraction.", TOLD + """
            sleep 1 3 0 = 49 / sleep 1 3 1 = 100 / sleep 60 5 0 = 1 / sleep 60 5 1 = 4 / sleep 60 0 0 = 1 / sleep 60 0 1 = 1
            sleep 60 10 0 = 0 / sleep 60 10 1 = 1 / ticks 1 / sleep 0 10 0 = 1 / sleep 0 10 1 = 1
            """);
        // By seed 1 X is 16807, 282475249, 1622650073, 984943658, 1144108930, 470211272, 101027544: players 1, 1, 2, 2, 1, 2, 0.
        holds(30, "GAMES of n TICKS (0 to 60) by a SEED (X at first): ahead of each X becomes the rest of (X times 16807) by 2147483647; the "
            + "PLAYER that is the rest of X by how many there are, if it is DEAD, sits up; else, if X by 3 leaves 0, its head is turned to "
            + "the SEAT that X by 8 (cut) leaves by how many there are, if that is not its own; if it is FOUND OUT, that PLAYER is the "
            + "MURDERER; then the TICK: how many died in them, how often it was FOUND OUT.", TOLD + """
            drawn 0 1 0 = 0 / drawn 0 1 1 = 0 / drawn 1 1 1 = 1 / drawn 3 1 0 = 0 / drawn 4 1 0 = 1 / drawn 4 1 1 = 1 / drawn 7 1 0 = 1
            """);
    }

    private static void kindsAndAsks() {
        holds(34, "KINDS of PLAYERS: 0 PLAYER; 1 ROVER, a PLAYER; 2 STARER, a ROVER; 3 BACKER (roves back), a ROVER; 4 SHY, a PLAYER; 5 DOZER, "
            + "a SHY one. By this it is asked.", KINDS + """
            as 0 0 = 0 / as 4 0 = 4 / as 1 1 = 1 / as 2 1 = 2 / as 4 4 = 4 / as 3 5 = KIND / as 0 2 = KIND / as 3 1 = KIND / as 1 3 = KIND
            """);
        holds(35, "ASKS of PLAYERS, by BODIES, each of which leaves its number in THE TRACE as it begins (the first 16):",
            KINDS + "trace 0 = NONE / ask 4 0 = -190 / trace 0 = 14 / trace 1 = 13 / trace 2 = 10 / trace 3 = NONE");
        holds(35, "0 SIZE: 10 lent to all PLAYERS: SLOW. 11 of ROVERS: what 10 gives, and MARK. 12 of STARERS: 0 less what 11 gives. 13 of SHY "
            + "ones: what 10 gives, less 100. 14 of DOZERS: what 13 gives, twice.",
            KINDS + "ask 0 0 = 1 / ask 1 0 = -4 / ask 2 0 = -995 / ask 3 0 = -96 / ask 4 0 = -190");
        holds(35, "1 MARK: 20 lent to all PLAYERS: the number. 21 of ROVERS: what 20 gives, and what it SAW. 22 of BACKERS: what 21 gives, less "
            + "1000. 23 of SHY ones: what 20 gives, less SIZE. 24 of STARERS: what 21 gives, twice.",
            KINDS + "ask 0 1 = 0 / ask 1 1 = 2 / ask 2 1 = -998 / ask 3 1 = 99 / ask 4 1 = 194\n" + TOLD + "ticks 1 / ask 1 1 = 4 / ask 0 1 = 0");
        holds(35, "(Of an ask the BODY told for the KIND begins, else that of the nearest KIND that it is, too, else the one that is lent; SIZE, "
            + "MARK within others are asked of the same PLAYER anew.)", KINDS + """
            ask 2 0 / trace 0 = 11 / trace 1 = 10 / trace 2 = 22 / trace 3 = 21 / trace 4 = 20 / trace 5 = NONE
            ask 4 1 / trace 0 = 23 / trace 1 = 20 / trace 2 = 14 / trace 3 = 13 / trace 4 = 10 / trace 5 = NONE
            """);
    }

    /** That the interface says so is looked at by FaceTest. */
    private static void sections() {
        says("Ahead of the calls `row`, `set`, `copy`, `drop` the interface says: ---- rows.");
        says("Ahead of the calls `feed`, `circle`, `fault`, `undo` the interface says: ---- what is told.");
        says("Ahead of the calls `ticks`, `turnHead`, `role`, `proof`, `rise`, `player`, `stand` the interface says: ---- what is done.");
        says("Ahead of the calls `ahead`, `toll`, `when`, `out`, `meet`, `bestRole`, `glance`, `pass`, `sets`, `share`, `byTurns`, `who`, "
            + "`sleep`, `drawn`, `image`, `restore` the interface says: ---- foretold.");
        says("Ahead of the calls `kind`, `as`, `ask`, `trace`, `count`, `status` the interface says: ---- asked.");
    }

    private static void promisesOfRows() {
        holds(1, "No CIRCLE.", "stand 0 = STATE / count 1 = 0 / player 0 0 = BAD / out = STATE / undo = STATE");
        holds(2, "A ROW of a LANE with n ITEMS, in place of what is there: n. BAD: ROW, LANE, n above 40; SIZE.", """
            row 5 1 7 = 7 / row 5 2 9 = 9 / set 5 8 70000 = 70000 / row 8 0 0 = BAD / row 0 3 0 = BAD / row 0 0 41 = BAD / row 0 0 -1 = SIZE
            row 8 0 -1 = BAD / row 0 3 -1 = BAD / count 0 = 1
            """);
        holds(3, "ITEM i becomes v, its lowest bits, as many as the LANE has: what it is then. BAD: ROW; NULL; PLACE.", """
            row 0 0 2 / set 0 1 257 = 1 / set 0 1 255 = -1 / row 1 1 1 / set 1 0 65537 = 1 / row 2 2 1 / set 2 0 min = min
            set -1 0 0 = BAD / set 3 9 0 = NULL / set 0 2 0 = PLACE / set 0 -1 0 = PLACE
            """);
        holds(4, "n ITEMS of a from i on come to b from j on, as they were ahead: n. BAD: ROWS; NULL; STORE; PLACE (i, j, n below 0, or beyond "
            + "an end).", TOLD + """
            row 0 0 4 / set 0 0 9 / set 0 1 0 / set 0 2 0 / set 0 3 9 / copy 0 0 0 1 3 = 3 / who 0 0 0 0 1 = 0 / who 0 0 0 1 1 = 0
            who 0 0 0 2 1 = 7 / who 0 0 0 3 1 = 7 / copy 0 4 0 4 0 = 0 / row 1 1 1
            copy 8 0 0 0 0 = BAD / copy 0 0 8 0 0 = BAD / copy 5 0 0 0 0 = NULL / copy 0 0 5 0 0 = NULL / copy 0 9 1 9 9 = STORE
            copy 0 -1 0 0 1 = PLACE / copy 0 0 0 -1 1 = PLACE / copy 0 0 0 0 -1 = PLACE / copy 0 2 0 0 3 = PLACE / copy 0 0 0 2 3 = PLACE
            """);
        holds(5, "A ROW is missing from now on: how many ITEMS it had. BAD; NULL.",
            "row 0 0 4 / drop 0 = 4 / drop 0 = NULL / set 0 0 0 = NULL / count 0 = 0 / drop 8 = BAD / drop -1 = BAD");
    }

    private static void promisesOfTexts() {
        holds(6, "A byte (0 to 255) comes behind the tape: how many it has. BAD; FULL.", "feed 0 = 1 / feed 256 = BAD / feed -1 = BAD / feed 255 = 2");
        holds(7, "The tape, empty then, is read: how many PLAYERS there are. -1000100 less the place of a FAULT: all stays.",
            FOUR + "count 7 = 0 / ticks 1 / tell w1,1;q = -1000105 / count 7 = 0 / stand 0 = 4 / count 3 = 1 / count 6 = 1");
        holds(8, "The number of the latest FAULT; 0 before one.", "fault = 0\n" + FOUR + "fault = 0 / tell w9 = F1 / fault = 2\n" + FOUR + "fault = 2");
        holds(9, "The latest ACT is undone: how many can be undone yet. STATE: none.", FOUR + "ticks 2 / undo = 1 / undo = 0 / undo = STATE");
    }

    private static void promisesOfActs() {
        holds(10, "n TICKS (1 to 24), an ACT each: who is DEAD then (bits). BAD; STATE: no CIRCLE (ahead of BAD); FULL: TICK would be above 999.",
            "ticks 0 = STATE\n" + FOUR + "ticks 0 = BAD / ticks 25 = BAD / ticks 24 = 1 / 40 * ticks 24 / count 3 = 984 / ticks 16 = FULL / ticks 15 = 1");
        holds(11, "A head is turned to a SEAT: where it LOOKED (NONE). BAD: no such PLAYER, SEAT, its own; STATE: it is DEAD, LOOKS there.", FOUR + """
            turnHead 2 3 = 1 / turnHead 2 3 = STATE / turnHead 4 0 = BAD / turnHead 0 4 = BAD / turnHead 2 2 = BAD
            ticks 3 = 1 / turnHead 0 1 = STATE / turnHead 0 0 = BAD
            tell w0,9;s1,1;s2,1;d1,1; = 3 / ticks 2 / turnHead 2 1 = NONE
            """);
        holds(12, "Another one is the MURDERER: who was. BAD; STATE: it is that one.", "role 0 = BAD\n" + FOUR + "role 3 = 1 / role 3 = STATE / role 4 = BAD");
        holds(13, "PROOF (1 to 9): what it was. BAD; STATE: no CIRCLE (ahead of BAD).",
            "proof 0 = STATE\n" + FOUR + "proof 9 = 3 / proof 1 = 9 / proof 0 = BAD / proof 10 = BAD / stand 2 = 1");
        holds(14, "Sits up: who is DEAD then (bits). BAD; STATE: it is not DEAD.", "rise 0 = BAD\n" + FOUR + "rise 0 = STATE / ticks 3 = 1 / rise 0 = 0 / rise 4 = BAD");
    }

    private static void promisesOfWhatStands() {
        holds(15, "Of a PLAYER: 0 how it is (0 LIVES, 1 FADES, 2 DEAD), 1 the SEAT at which it LOOKS (NONE), 2 SLOW, 3 LEFT (0: it does not FADE), "
            + "4 what it SAW, 5 who LOOKS at it (bits). BAD.", FOUR + """
            ticks 1 / player 0 0 = 1 / player 0 1 = 1 / player 0 2 = 2 / player 0 3 = 2 / player 0 4 = 0 / player 0 5 = 10 / player 1 5 = 5
            player 2 4 = 1 / player 2 3 = 0 / player 0 6 = BAD / player 0 -1 = BAD / player 4 0 = BAD
            """);
        holds(16, "0 PLAYERS, 1 the MURDERER, 2 PROOF, 3 whether it is FOUND OUT (1, 0), 4 who LIVES (bits), 5 FADES, 6 is DEAD. BAD; STATE: no "
            + "CIRCLE (ahead of BAD).", "stand 9 = STATE\n" + FOUR + """
            ticks 1 / stand 0 = 4 / stand 1 = 1 / stand 2 = 3 / stand 3 = 0 / stand 4 = 14 / stand 5 = 1 / stand 6 = 0 / stand 7 = BAD / stand -1 = BAD
            """);
    }

    private static void promisesForetold() {
        holds(17, "AHEAD: how (what = 0), the SEAT (1; NONE), what it SAW (2). BAD.",
            "ahead 0 0 0 = BAD\n" + FOUR + "ahead 0 1 0 = 1 / ahead 0 9 1 = NONE / ahead 2 1 2 = 1 / ahead 0 0 3 = BAD / ahead 4 0 0 = BAD / ahead 0 -1 0 = BAD");
        holds(18, "TOLL: DEAD (what = 0), FOUND OUT (1). BAD; STATE: no CIRCLE (ahead of BAD).",
            "toll 0 2 = STATE\n" + TOLD + "toll 4 0 = 1 / toll 3 0 = 0 / toll 4 1 = 1 / toll 0 2 = BAD / toll -1 0 = BAD");
        holds(19, "WHEN it is not living (how = 1), DEAD (2); NONE. BAD.",
            "when 0 1 = BAD\n" + TOLD + "when 0 1 = 1 / when 0 2 = 4 / when 2 2 = NONE / when 0 0 = BAD / when 0 3 = BAD / when 3 1 = BAD");
        holds(20, "OUT; NONE. STATE: no CIRCLE.", "out = STATE\n" + TOLD + "out = 1 / proof 2 / out = NONE");
        holds(21, "MEET; NONE. BAD: the same, too.", "meet 0 1 = BAD\n" + ROVERS + "meet 1 2 = 1 / meet 0 1 = NONE / meet 1 1 = BAD / meet 0 3 = BAD");
    }

    private static void promisesOfBest() {
        holds(22, "ROLE: who (what = 0), how many (1). BAD; STATE: no CIRCLE (ahead of BAD).",
            "bestRole 0 0 = STATE\n" + TOLD + "bestRole 4 0 = 2 / bestRole 4 1 = 1 / bestRole 0 0 = BAD / bestRole 41 0 = BAD / bestRole 1 2 = BAD");
        holds(23, "GLANCE: which (what = 0), how many (1); NONE. BAD; STATE: no CIRCLE (ahead of BAD).",
            "glance 0 0 = STATE\n" + TOLD + "glance 2 0 = 1 / glance 2 1 = 1 / glance 4 0 = 0 / glance 0 0 = BAD / glance 41 0 = BAD / glance 1 2 = BAD");
        holds(24, "PASS; NONE. BAD; STATE: no CIRCLE (ahead of BAD).", "pass 0 = STATE\n" + TOLD + "pass 40 = 2 / ticks 1 / pass 40 = NONE / pass 0 = BAD / pass 41 = BAD");
        holds(25, "SETS: how many (what = 0), in all (1), in any (2). BAD; STATE: no CIRCLE (ahead of BAD).",
            "sets 0 3 = STATE\n" + TOLD + "ticks 1 / sets 1 0 = 4 / sets 1 1 = 2 / sets 1 2 = 7 / sets 0 3 = BAD / sets -1 0 = BAD / sets 100 0 = BAD");
        holds(26, "SHARE. BAD.", "share 0 0 = BAD\n" + TOLD + "ticks 1 / share 1 999 = 999 / share 0 999 = 0 / share 1 1000 = BAD / share 1 -1 = BAD / share 3 1 = BAD");
    }

    private static void promisesOfGuesses() {
        holds(27, "TURNS. BAD; STATE: no CIRCLE (ahead of BAD).", "byTurns 4 0 = STATE\n" + TOLD + """
            byTurns 0 4 = 1 / byTurns 0 3 = 0 / byTurns 1 2 = 1 / byTurns 2 4 = 1 / byTurns 4 1 = BAD / byTurns 0 0 = BAD / byTurns 0 21 = BAD
            """);
        holds(28, "MURDERERS (which = 0); KINDS (1), LOOKS (2), SLOWNESSES (3) of a PLAYER, n ITEMS of a ROW from i on. BAD: PLAYER, which, ROW, n; "
            + "STATE: by LOOKS, if it is DEAD; NULL; PLACE.", "row 0 0 5 / set 0 4 1 / who 0 0 0 0 1 = BAD\n" + TOLD + """
            who 0 0 0 1 4 = 4 / who 0 3 0 1 4 = 8 / who 0 2 0 1 4 = 4 / who 0 1 0 1 4 = 4
            who 3 0 0 0 1 = BAD / who 0 4 0 0 1 = BAD / who 0 0 8 0 1 = BAD / who 0 0 0 0 0 = BAD / who 0 0 0 0 13 = BAD
            who 0 0 1 0 1 = NULL / who 0 0 0 2 4 = PLACE / ticks 4 = 1 / who 0 2 1 9 1 = STATE / who 0 3 0 4 1 = 1022
            """);
        holds(29, "SLEEP: above (what = 0), below (1). BAD; STATE: no CIRCLE (ahead of BAD).",
            "sleep 0 11 0 = STATE\n" + TOLD + "sleep 1 1 0 = 81 / sleep 1 1 1 = 100 / sleep 0 11 0 = BAD / sleep 61 0 0 = BAD / sleep 0 0 2 = BAD");
        holds(30, "GAMES by a SEED (1 to 999999): how many died (what = 0), how often FOUND OUT (1). BAD; STATE: no CIRCLE (ahead of BAD).",
            "drawn 0 0 0 = STATE\n" + TOLD + "drawn 4 1 0 = 1 / drawn 1 1 1 = 1 / drawn 1 0 0 = BAD / drawn 1 1000000 0 = BAD / drawn 61 1 0 = BAD / drawn 1 1 2 = BAD");
    }

    private static void promisesOfImages() {
        holds(31, "An IMAGE (0, 1) is kept of the CIRCLE: 1. BAD; STATE: no CIRCLE.", "image 0 = STATE / image 2 = BAD\n" + TOLD + "image 0 = 1 / image 1 = 1 / image -1 = BAD");
        holds(32, "The CIRCLE is as an IMAGE kept it (no ACT can be undone then): 1. BAD; STATE: none was kept.",
            TOLD + "ticks 2 / image 1 / ticks 2 = 1 / restore 1 = 1 / count 3 = 2 / stand 6 = 0 / player 0 3 = 2 / undo = STATE / restore 0 = STATE / restore 2 = BAD");
    }

    private static void promisesAsked() {
        holds(33, "The KIND of a PLAYER, as told (1 to 5). BAD.", "kind 0 = BAD\n" + KINDS + "kind 0 = 1 / kind 1 = 2 / kind 2 = 3 / kind 3 = 4 / kind 4 = 5 / kind 5 = BAD");
        holds(34, "A PLAYER is taken as one of a KIND (0 .. 5): its number. BAD; KIND: it is no such one.",
            "as 0 0 = BAD\n" + KINDS + "as 2 3 = 2 / as 2 2 = KIND / as 2 6 = BAD / as 2 -1 = BAD / as 5 0 = BAD");
        holds(35, "An ASK (0, 1) of a PLAYER. BAD. THE TRACE is empty ahead of it.",
            "ask 0 0 = BAD\n" + KINDS + "ask 1 0 = -4 / trace 5 = 20 / ask 0 1 = 0 / trace 1 = 20 / trace 2 = NONE / ask 0 2 = BAD / ask 5 0 = BAD / trace 0 = 21");
        holds(36, "Number i of THE TRACE; NONE.", KINDS + "ask 3 1 = 99 / trace 0 = 23 / trace 1 = 20 / trace 2 = 13 / trace 3 = 10 / trace 4 = NONE / trace -1 = NONE");
        holds(37, "How many: 0 ROWS, 1 PLAYERS, 2 the MURDERER, 3 TICK, 4 how many are DEAD, 5 what all SAW together, 6 ACTS that can be undone, 7 "
            + "bytes on the tape. BAD.", TOLD + """
            ticks 4 / row 3 0 1 / feed 'w / count 0 = 1 / count 1 = 3 / count 2 = 2 / count 3 = 4 / count 4 = 1 / count 5 = 1 / count 6 = 4
            count 7 = 1 / count 8 = BAD / count -1 = BAD
            """);
        holds(38, "Of the latest call with a ROW, or as(), that was not BAD, STATE, FULL: the number of its FINDING; 0: it had none, or there was none.",
            "status = 0 / set 0 0 0 = NULL / status = 1 / set 8 0 0 = BAD / status = 1\n" + TOLD + """
            status = 1 / as 0 4 = KIND / status = 3 / as 0 9 = BAD / status = 3 / as 0 2 = 0 / status = 0 / row 0 0 -1 = SIZE / status = 4
            row 0 0 1 / status = 0 / who 0 0 0 1 1 = PLACE / status = 2 / ticks 4 / who 0 2 0 1 1 = STATE / status = 2 / who 0 0 0 0 1 / status = 0
            row 1 1 1 / copy 0 0 1 0 1 = STORE / status = 5 / drop 1 / status = 0
            """);
    }

    private static void notPromised() {
        says("How the state is held inside the object is free, as are the speed of each call, the text of toString and the behaviour of equals "
            + "and hashCode.");
        says("Use of one object from several threads at once is not promised to be safe.");
        says("Nothing is promised beyond the answers and state changes described above, and nothing about an object after its 512th call.");
    }
}
