import java.io.IOException;
import java.lang.reflect.Method;
import java.nio.charset.StandardCharsets;
import java.nio.file.Files;
import java.nio.file.Path;
import java.util.ArrayList;
import java.util.Arrays;
import java.util.HashMap;
import java.util.List;
import java.util.Map;
import java.util.TreeSet;

/**
 * Runs of calls told in lines, each run for one sentence of the document, on an object of its own.
 *
 * A line has calls, parted by " / ", each with the answer that is due or without: "ticks 25 = BAD".
 * "3 * ticks 24" makes a call three times over; "type w0," feeds signs, "tell w0,1;.." feeds a text and
 * reads it. "F7" is the answer by a fault at place 7; "max" and "min" are the greatest and the least int.
 */
final class Runs {
    private static final Path DOCUMENT = Path.of("../shared/DOC.md");
    private static final int MOST_CALLS = 512;
    private static final Map<String, Integer> WORDS = new HashMap<>();
    private static final Map<String, Method> METHODS = new HashMap<>();

    static {
        String[] names = {"NONE", "BAD", "STATE", "FULL"};
        for (int k = 0; k < names.length; k++) {
            WORDS.put(names[k], -1000000 - k);
        }
        String[] findings = {"NULL", "PLACE", "KIND", "SIZE", "STORE"};
        for (int k = 0; k < findings.length; k++) {
            WORDS.put(findings[k], -1000011 - k);
        }
        WORDS.put("max", Integer.MAX_VALUE);
        WORDS.put("min", Integer.MIN_VALUE);
        for (Method method : WinkCircle.class.getDeclaredMethods()) {
            METHODS.put(method.getName(), method);
        }
    }

    /** An object, and how many of the calls that the document lets it have were made. */
    private static final class Desk {
        final WinkCircle circle = new WinkCircle();
        int calls = 0;

        long call(String name, int... numbers) {
            Method method = METHODS.get(name);
            if (method == null || method.getParameterCount() != numbers.length) {
                throw new IllegalArgumentException("no such call: " + name + Arrays.toString(numbers));
            }
            calls++;
            Object[] boxed = Arrays.stream(numbers).boxed().toArray();
            try {
                return ((Number) method.invoke(circle, boxed)).longValue();
            } catch (ReflectiveOperationException thrown) {
                throw new IllegalStateException(name + Arrays.toString(numbers) + " threw", thrown);
            }
        }

        long type(String signs) {
            long answer = 0;
            for (int i = 0; i < signs.length(); i++) {
                answer = call("feed", signs.charAt(i));
            }
            return answer;
        }
    }

    private final String document;
    private final Check check;
    private final TreeSet<Integer> promises = new TreeSet<>();

    Runs(String name) {
        check = new Check(name);
        document = words(DOCUMENT);
    }

    private static String words(Path path) {
        try {
            return Files.exists(path) ? plain(Files.readString(path, StandardCharsets.UTF_8)) : "";
        } catch (IOException unreadable) {
            return "";
        }
    }

    private static String plain(String text) {
        return text.replaceAll("\\s+", " ").trim();
    }

    private String heading(int promise, String sentence) {
        promises.add(promise);
        String quoted = plain(sentence);
        check.holds("the document says '" + quoted + "'", document.isEmpty() || document.contains(quoted));
        return "promise " + promise + ", '" + quoted + "': ";
    }

    /** The sentence holds if every call of this run answers as told. */
    void holds(int promise, String sentence, String lines) {
        String heading = heading(promise, sentence);
        run(new Desk(), heading, lines);
    }

    /** Each call, alone, on an object that stands as the setup leaves it, answers so and leaves all as it was. */
    void refused(int promise, String sentence, String setup, String calls) {
        String heading = heading(promise, sentence);
        for (String call : parts(calls)) {
            Desk untouched = new Desk();
            Desk touched = new Desk();
            run(untouched, heading, setup);
            run(touched, heading, setup);
            long answer = run(touched, heading, call);
            compare(heading + call + ": ", untouched, touched, answer);
        }
    }

    /** As refused(): what only looks on has an answer, and leaves all as it was. */
    void leavesAll(int promise, String sentence, String setup, String calls) {
        refused(promise, sentence, setup, calls);
    }

    /** No promise from one to another is left without a run. */
    void cover(int first, int last) {
        for (int promise = first; promise <= last; promise++) {
            check.holds("promise " + promise + " has a run", promises.contains(promise));
        }
    }

    void end() {
        check.end();
    }

    private static List<String> parts(String lines) {
        List<String> parts = new ArrayList<>();
        for (String line : lines.split("\n")) {
            for (String part : line.split(" / ")) {
                if (!part.isBlank()) {
                    parts.add(part.trim());
                }
            }
        }
        return parts;
    }

    private long run(Desk desk, String heading, String lines) {
        long answer = 0;
        for (String part : parts(lines)) {
            String[] sides = part.split(" = ");
            String[] words = sides[0].trim().split(" +");
            int times = 1;
            if (words.length > 2 && words[1].equals("*")) {
                times = Integer.parseInt(words[0]);
                words = Arrays.copyOfRange(words, 2, words.length);
            }
            for (int k = 0; k < times; k++) {
                answer = make(desk, words);
                if (sides.length > 1) {
                    check.due(heading + part, answer, number(sides[1].trim()));
                }
            }
        }
        check.holds(heading + "no more calls than an object is used for", desk.calls <= MOST_CALLS);
        return answer;
    }

    private static long make(Desk desk, String[] words) {
        if (words[0].equals("type")) {
            return desk.type(words[1]);
        }
        if (words[0].equals("tell")) {
            desk.type(words.length > 1 ? words[1] : "");
            return desk.call("circle");
        }
        int[] numbers = new int[words.length - 1];
        for (int i = 0; i < numbers.length; i++) {
            numbers[i] = number(words[i + 1]);
        }
        return desk.call(words[0], numbers);
    }

    private static int number(String word) {
        if (WORDS.containsKey(word)) {
            return WORDS.get(word);
        }
        if (word.startsWith("F")) {
            return -1000100 - Integer.parseInt(word.substring(1));
        }
        if (word.startsWith("'")) {
            return word.charAt(1);
        }
        return Integer.parseInt(word);
    }

    // ---- all that can be seen of an object

    private void compare(String heading, Desk untouched, Desk touched, long answer) {
        boolean found = answer <= -1000011 && answer >= -1000015;
        long due = untouched.call("status");
        check.due(heading + "status", touched.call("status"), found ? -1000010 - answer : due);
        compareStand(heading, untouched, touched);
        for (int row = 0; row < 8; row++) {
            compareRow(heading, untouched, touched, row);
        }
        same(heading + "the tape, ", untouched, touched, "feed", 'w');
        same(heading + "the tape, ", untouched, touched, "circle");
        same(heading + "the tape, ", untouched, touched, "fault");
        for (int k = 0; k <= 24; k++) {
            if (same(heading + "the acts, ", untouched, touched, "undo") < 0) {
                break;
            }
        }
        compareStand(heading + "all undone, ", untouched, touched);
        for (int k = 0; k < 2; k++) {
            if (same(heading + "the images, ", untouched, touched, "restore", k) == 1) {
                compareStand(heading + "image " + k + ", ", untouched, touched);
            }
        }
        check.holds(heading + "no more calls than an object is used for", touched.calls <= MOST_CALLS);
    }

    private void compareStand(String heading, Desk untouched, Desk touched) {
        same(heading, untouched, touched, "fault");
        for (int what = 0; what < 8; what++) {
            same(heading, untouched, touched, "count", what);
        }
        long players = same(heading, untouched, touched, "stand", 0);
        for (int what = 1; what < 7; what++) {
            same(heading, untouched, touched, "stand", what);
        }
        for (int player = 0; player < players; player++) {
            for (int what = 0; what < 5; what++) {
                same(heading, untouched, touched, "player", player, what);
            }
            same(heading, untouched, touched, "kind", player);
        }
        for (int i = 0; i < 6; i++) {
            same(heading, untouched, touched, "trace", i);
        }
    }

    // Items can't be read: those that are as many as die can be told from others; a great number tells the lane.
    private void compareRow(String heading, Desk untouched, Desk touched, int row) {
        String of = heading + "row " + row + ", ";
        if (same(of, untouched, touched, "copy", row, 0, row, 0, 0) < 0) {
            return;
        }
        for (int i = 0; i < 3; i++) {
            same(of, untouched, touched, "who", 0, 3, row, i, 1);
        }
        same(of, untouched, touched, "set", row, 0, 0x1828384);
        same(of, untouched, touched, "drop", row);
    }

    private long same(String heading, Desk untouched, Desk touched, String name, int... numbers) {
        long due = untouched.call(name, numbers);
        check.due(heading + name + Arrays.toString(numbers), touched.call(name, numbers), due);
        return due;
    }
}
