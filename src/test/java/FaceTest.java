import java.io.IOException;
import java.lang.reflect.Constructor;
import java.lang.reflect.Field;
import java.lang.reflect.Method;
import java.lang.reflect.Modifier;
import java.nio.charset.StandardCharsets;
import java.nio.file.Files;
import java.nio.file.Path;
import java.util.ArrayList;
import java.util.Arrays;
import java.util.Collections;
import java.util.List;
import java.util.regex.Matcher;
import java.util.regex.Pattern;

/** The public face of the document, and those rules of the language that can be looked at from outside. */
public final class FaceTest {
    private static final String[] METHODS = {
        "int row(int,int,int)", "int set(int,int,int)", "int copy(int,int,int,int,int)", "int drop(int)",
        "int feed(int)", "int circle()", "int fault()", "int undo()", "int ticks(int)",
        "int turnHead(int,int)", "int role(int)", "int proof(int)", "int rise(int)", "int player(int,int)",
        "int stand(int)", "int ahead(int,int,int)", "int toll(int,int)", "int when(int,int)", "int out()",
        "int meet(int,int)", "int bestRole(int,int)", "int glance(int,int)", "int pass(int)",
        "int sets(int,int)", "int share(int,int)", "int byTurns(int,int)",
        "int who(int,int,int,int,int)", "long sleep(int,int,int)", "int drawn(int,int,int)",
        "int image(int)", "int restore(int)", "int kind(int)", "int as(int,int)", "int ask(int,int)",
        "int trace(int)", "int count(int)", "int status()"};

    private static final Path SOURCE = Path.of("src/main/java/WinkCircle.java");
    private static final Pattern SECTION = Pattern.compile("Ahead of the calls ([`\\w, ]+) the interface says: (---- [a-z ]+)\\.");
    private static final Check check = new Check("FaceTest");

    public static void main(String[] args) throws IOException {
        constants();
        methods();
        nestedClasses();
        documentsFace();
        sections();
        source();
        check.end();
    }

    private static void constants() {
        check.due("NONE", WinkCircle.NONE, -1000000);
        check.due("BAD", WinkCircle.BAD, -1000001);
        check.due("STATE", WinkCircle.STATE, -1000002);
        check.due("FULL", WinkCircle.FULL, -1000003);
        check.holds("the class is public and final",
            Modifier.isPublic(WinkCircle.class.getModifiers()) && Modifier.isFinal(WinkCircle.class.getModifiers()));
        List<String> open = new ArrayList<>();
        for (Field field : WinkCircle.class.getDeclaredFields()) {
            if (!Modifier.isPrivate(field.getModifiers())) {
                open.add(field.getName());
            }
            if (Modifier.isStatic(field.getModifiers())) {
                check.holds("static is final: " + field.getName(), Modifier.isFinal(field.getModifiers()));
            }
        }
        Collections.sort(open);
        check.holds("no other open field: " + open, open.equals(List.of("BAD", "FULL", "NONE", "STATE")));
        Constructor<?>[] made = WinkCircle.class.getDeclaredConstructors();
        check.holds("one constructor", made.length == 1 && Modifier.isPublic(made[0].getModifiers())
            && made[0].getParameterCount() == 0);
    }

    private static String spell(Method method) {
        StringBuilder text = new StringBuilder(method.getReturnType() + " " + method.getName() + "(");
        Class<?>[] types = method.getParameterTypes();
        for (int i = 0; i < types.length; i++) {
            text.append(i == 0 ? "" : ",").append(types[i]);
        }
        return text.append(")").toString();
    }

    private static void methods() {
        List<String> due = new ArrayList<>(Arrays.asList(METHODS));
        List<String> names = new ArrayList<>();
        List<String> got = new ArrayList<>();
        List<Method> hidden = new ArrayList<>();
        for (Method method : WinkCircle.class.getDeclaredMethods()) {
            if (Modifier.isPrivate(method.getModifiers())) {
                hidden.add(method);
            } else {
                got.add(spell(method));
                names.add(method.getName());
            }
        }
        Collections.sort(due);
        Collections.sort(got);
        check.holds("the methods are those of the document: " + got, due.equals(got));
        for (Method method : hidden) {
            check.holds("a private method has a name of its own: " + method, !names.contains(method.getName()));
        }
    }

    private static void nestedClasses() {
        Class<?>[] nested = WinkCircle.class.getDeclaredClasses();
        check.holds("at most twelve classes", nested.length <= 12);
        for (Class<?> one : nested) {
            check.holds("static: " + one, Modifier.isStatic(one.getModifiers()));
            check.holds("not public: " + one, !Modifier.isPublic(one.getModifiers()));
            int fields = 0;
            for (Field field : one.getDeclaredFields()) {
                fields += Modifier.isStatic(field.getModifiers()) ? 0 : 1;
            }
            check.holds("at most twenty fields: " + one, fields <= 20);
            for (Method method : one.getDeclaredMethods()) {
                check.holds("at most seven parameters: " + method, method.getParameterCount() <= 7);
            }
        }
    }

    /** The lines of the document's face stand in the class as they are, with the names of what they take. */
    private static void documentsFace() throws IOException {
        String document = Files.readString(Path.of("../shared/DOC.md"), StandardCharsets.UTF_8);
        String source = Files.readString(SOURCE, StandardCharsets.US_ASCII);
        Matcher face = Pattern.compile("(?s)```java\n(.*?)```").matcher(document);
        check.holds("the document has a face", face.find());
        int calls = 0;
        for (String line : face.group(1).split("\n")) {
            String bare = line.trim().replaceAll(";$", "");
            if (bare.startsWith("public")) {
                check.holds("the class has '" + bare + "'", source.contains(bare));
                calls += bare.contains("(") ? 1 : 0;
            }
        }
        check.due("the calls of the face, the constructor with them", calls, METHODS.length + 1);
    }

    /** "Ahead of the calls .. the interface says": the calls stand in that order, behind that line. */
    private static void sections() throws IOException {
        String document = Files.readString(Path.of("../shared/DOC.md"), StandardCharsets.UTF_8);
        String source = Files.readString(SOURCE, StandardCharsets.US_ASCII);
        Matcher section = SECTION.matcher(document);
        int at = 0;
        int many = 0;
        while (section.find()) {
            int line = source.indexOf("    // " + section.group(2) + "\n", at);
            check.holds(section.group(2) + " comes next", line > at);
            at = Math.max(at, line);
            for (String name : section.group(1).replace("`", "").split(", ")) {
                Matcher head = Pattern.compile("public (?:int|long) " + name + "\\(").matcher(source);
                boolean next = head.find(at);
                check.holds(name + " comes next", next);
                at = next ? head.start() : at;
                many++;
            }
        }
        check.due("calls in all sections", many, METHODS.length);
    }

    private static void source() throws IOException {
        String text = Files.readString(SOURCE, StandardCharsets.US_ASCII);
        String bare = text.replaceAll("(?s)/\\*.*?\\*/", " ").replaceAll("//[^\n]*", " ");
        String[] words = {"throw", "throws", "try", "catch", "synchronized", "assert", "import", "package",
            "double", "float", "equals", "hashCode", "toString"};
        for (String word : words) {
            check.holds("no " + word, !Pattern.compile("\\b" + word + "\\b").matcher(bare).find());
        }
        check.holds("no lambda, no method reference", !bare.contains("->") && !bare.contains("::"));
    }
}
