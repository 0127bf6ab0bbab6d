import java.io.IOException;
import java.lang.annotation.Retention;
import java.lang.annotation.RetentionPolicy;
import java.lang.reflect.InvocationTargetException;
import java.lang.reflect.Method;
import java.nio.charset.StandardCharsets;
import java.nio.file.Files;
import java.nio.file.Path;
import java.util.ArrayList;
import java.util.Arrays;
import java.util.Comparator;
import java.util.List;
import java.util.Map;
import java.util.TreeMap;
import java.util.function.IntConsumer;

/**
 * For each sentence of the document that names a boundary case a test of its own. A test tells in
 * Says the section and the words that it is of; that they stand there, and that no sentence is left
 * without a test, is looked up in the document. That each test fails if its sentence is broken is
 * what MutantsTest shows.
 */
public final class BoundaryTest {
    private static final Path DOCUMENT = Path.of("../shared/DOC.md");

    private static final Class<?> INDEX = IndexOutOfBoundsException.class;
    private static final Class<?> ARGUMENT = IllegalArgumentException.class;
    private static final Class<?> STATE = IllegalStateException.class;
    private static final int MIN = Integer.MIN_VALUE;
    private static final int MAX = Integer.MAX_VALUE;
    private static final int[] NO_NODES = {-1, 8, 9, 31, MIN, MAX};

    /** The sentences that name no boundary of their own: what they tell, others tell in full. */
    private static final String[] NO_BOUNDARY = {
        "A store and carry network: nodes meet now and then",
        "The calls tell what happens, one thing after the other: bundles are sent",
        "When two nodes meet, four things are done, one after the other:",
        "Ahead of the calls `send`", "Ahead of the calls `clock`", "Ahead of the calls `copies`",
        "Ahead of the calls `arrival`",
        "The plan.", "Each node knows of some bundles that they are delivered",
        "`bundle`: the number of a bundle",
        "`int meet(int node, int other, int most) throws",
        "`int setBuffer(int node, int places) throws",
        "`int addContact(int node, int other, int first, int last) throws",
        "`int endOf(int bundle) throws", "`int deliveredAt(int bundle) throws",
        "`int custodian(int bundle) throws", "`int holders(int bundle) throws",
        "`int copies(int node, int bundle) throws", "`boolean knows(int node, int bundle) throws",
        "`int arrival(int node, int destination) throws",
    };

    private static final String CHANGES_NOTHING = "A call that throws an exception changes nothing";
    private static final String FIRST_NAMED =
            "if several exceptions apply, the one that its throws clause names first is thrown";

    @Retention(RetentionPolicy.RUNTIME)
    private @interface Says {
        String in();
        String[] words();
    }

    private static final TreeMap<String, String> found = new TreeMap<>();
    private static String current;

    public static void main(String[] args) throws IOException {
        Map<String, String> failed = failures();
        failed.forEach((test, text) -> System.out.println(test + ": " + text));
        boolean fine = failed.isEmpty() & wordsStandInTheDocument();
        System.out.println(fine ? tests().size() + " boundary cases hold" : "there are faults");
        if (!fine) {
            System.exit(1);
        }
    }

    /** The tests that fail, each with the first answer that is not as due. */
    public static Map<String, String> failures() {
        found.clear();
        for (Method test : tests()) {
            current = test.getName();
            try {
                test.invoke(null);
            } catch (InvocationTargetException e) {
                wrong("threw " + e.getCause());
            } catch (IllegalAccessException e) {
                throw new IllegalStateException(e);
            }
        }
        return found;
    }

    public static List<String> names() {
        return tests().stream().map(Method::getName).toList();
    }

    private static List<Method> tests() {
        return Arrays.stream(BoundaryTest.class.getDeclaredMethods())
                .filter(m -> m.isAnnotationPresent(Says.class))
                .sorted(Comparator.comparing(Method::getName)).toList();
    }

    // ---- the document

    private static boolean wordsStandInTheDocument() throws IOException {
        if (!Files.isReadable(DOCUMENT)) {
            System.out.println("no document is there, its words are not looked up");
            return true;
        }
        TreeMap<String, List<String>> sections = sections();
        TreeMap<String, List<String>> said = new TreeMap<>();
        boolean fine = true;
        for (Method test : tests()) {
            Says says = test.getAnnotation(Says.class);
            said.computeIfAbsent(says.in(), k -> new ArrayList<>()).addAll(List.of(says.words()));
            String text = String.join(" ", sections.getOrDefault(says.in(), List.of()));
            for (String words : says.words()) {
                if (!text.contains(words)) {
                    System.out.println(test.getName() + ": " + says.in() + " has not: " + words);
                    fine = false;
                }
            }
        }
        for (Map.Entry<String, List<String>> section : sections.entrySet()) {
            List<String> words = said.getOrDefault(section.getKey(), List.of());
            for (String sentence : section.getValue()) {
                boolean tested = words.stream().anyMatch(sentence::contains);
                if (!tested && Arrays.stream(NO_BOUNDARY).noneMatch(sentence::startsWith)) {
                    System.out.println("no test in " + section.getKey() + " of: " + sentence);
                    fine = false;
                }
            }
        }
        return fine;
    }

    /** The sentences of each section that binds, by the section's name. */
    private static TreeMap<String, List<String>> sections() throws IOException {
        TreeMap<String, List<String>> sections = new TreeMap<>();
        String name = "";
        for (String line : Files.readAllLines(DOCUMENT, StandardCharsets.UTF_8)) {
            if (line.startsWith("## ")) {
                name = line.substring(3).replaceAll("^(Promise \\d+):.*", "$1");
            } else if (name.equals("Terms") || name.equals("What it is") || name.startsWith("Promise ")) {
                String bare = line.replaceAll("^(- |\\d\\. )", "");
                for (String sentence : bare.split("(?<=\\.) (?=[A-Z])")) {
                    // A heading of one word, such as 'Buffers.', is no sentence.
                    if (sentence.contains(" ")) {
                        sections.computeIfAbsent(name, k -> new ArrayList<>()).add(sentence);
                    }
                }
            }
        }
        return sections;
    }

    // ---- how a test tells what is wrong

    private static void wrong(String text) {
        found.putIfAbsent(current, text);
    }

    private static void due(String what, long want, long got) {
        if (want != got) {
            wrong(what + " answered " + got + ", due is " + want);
        }
    }

    private static void due(String what, boolean want, boolean got) {
        due(what, want ? 1 : 0, got ? 1 : 0);
    }

    private static void due(String what, String want, String got) {
        if (!want.equals(got)) {
            wrong(what + " is " + got + ", due is " + want);
        }
    }

    /** What the library throws by itself is no answer, even if it is of the kind that is due. */
    private static void fails(String what, Class<?> kind, Runnable call) {
        Class<?> got = null;
        try {
            call.run();
        } catch (RuntimeException e) {
            got = e.getClass();
            due(what + ": thrown by the class itself", true,
                    e.getStackTrace()[0].getClassName().startsWith("Delaypouch"));
        }
        if (got != kind) {
            wrong(what + " threw " + got + ", due is " + kind);
        }
    }

    private static void failsUnchanged(String what, Class<?> kind, Delaypouch x, Runnable call) {
        String before = state(x);
        fails(what, kind, call);
        due("the state behind " + what, before, state(x));
    }

    private static void noNode(String what, IntConsumer call) {
        for (int node : NO_NODES) {
            fails(what + " " + node, INDEX, () -> call.accept(node));
        }
    }

    /** Of an object that has two bundles, and of one that has none. */
    private static void noBundle(String what, IntConsumer ofTwo, IntConsumer ofNone) {
        for (int bundle : new int[] {-1, 2, 3, 39, 40, MIN, MAX}) {
            fails(what + " " + bundle + " of 2", INDEX, () -> ofTwo.accept(bundle));
        }
        for (int bundle : new int[] {-1, 0, 1, 39, 40, MIN, MAX}) {
            fails(what + " " + bundle + " of none", INDEX, () -> ofNone.accept(bundle));
        }
    }

    /** All that can be asked of an object, as one text: two equal texts are two equal states. */
    private static String state(Delaypouch x) {
        StringBuilder s = new StringBuilder();
        s.append(x.clock()).append(' ').append(x.bundles());
        for (int b = 0; b < x.bundles(); b++) {
            s.append("|b").append(x.endOf(b)).append(',').append(x.deliveredAt(b));
            s.append(',').append(x.hops(b)).append(',').append(x.custodian(b));
            s.append(',').append(x.holders(b)).append(',').append(x.promised(b));
        }
        for (int n = 0; n < 8; n++) {
            s.append("|n").append(x.dropped(n)).append(',').append(x.refused(n));
            s.append(',').append(held(x, n));
            for (int b = 0; b < x.bundles(); b++) {
                s.append(',').append(x.copies(n, b)).append(x.knows(n, b) ? 'k' : '-');
            }
            for (int d = 0; d < 8; d++) {
                s.append(',').append(x.arrival(n, d)).append(',').append(x.arrivalByRounds(n, d));
            }
        }
        return s.toString();
    }

    /** The bundles of a node, in their order. */
    private static String held(Delaypouch x, int node) {
        StringBuilder s = new StringBuilder();
        for (int place = 0; place < x.held(node); place++) {
            s.append(place == 0 ? "" : " ").append(x.heldAt(node, place));
        }
        return s.toString();
    }

    private static void arrives(String what, Delaypouch x, int node, int destination, int want) {
        due(what + ", by nodes", want, x.arrival(node, destination));
        due(what + ", by rounds", want, x.arrivalByRounds(node, destination));
    }

    // ---- networks that many tests begin with

    /** Node 1 is full of four bundles of other custodians; in their order they are 3, 2, 0, 1. */
    private static Delaypouch fullOfForeign() {
        Delaypouch x = new Delaypouch();
        x.send(2, 7, 0, 2, 60);
        x.send(2, 7, 0, 2, 60);
        x.send(0, 7, 0, 2, 50);
        x.send(0, 7, 1, 2, 100);
        x.meet(0, 1, 20);
        x.meet(1, 2, 20);
        return x;
    }

    /** Node 1 is full of bundles that it is the custodian of, of the lowest priority. */
    private static Delaypouch fullOfCustody() {
        Delaypouch x = new Delaypouch();
        for (int i = 0; i < 4; i++) {
            x.send(1, 6, 0, 1, 100);
        }
        return x;
    }

    /** Bundle 0 to 7 ends at 10, and is at 0, its custodian, and at 1 and 2. */
    private static Delaypouch endsAtTen() {
        Delaypouch x = new Delaypouch();
        x.send(0, 7, 0, 8, 10);
        x.meet(0, 1, 1);
        x.meet(1, 2, 1);
        return x;
    }

    /** Node 1 delivered bundle 0 to 7; its custodian 0 and node 2 have it still, unknowing. */
    private static Delaypouch deliveredByOne() {
        Delaypouch x = endsAtTen();
        x.meet(1, 7, 1);
        return x;
    }

    /** Receipts, copies, custody and a plan; 1 is full of bundles 0 and 1 of other custodians. */
    private static Delaypouch busy() {
        Delaypouch x = new Delaypouch();
        x.addContact(0, 7, 5, 9);
        x.addContact(6, 3, 2, 40);
        x.pass(2);
        x.send(0, 7, 1, 8, 50);
        x.send(0, 6, 0, 8, 60);
        x.meet(0, 1, 20);
        x.send(2, 3, 1, 3, 40);
        x.meet(2, 3, 1);
        x.send(4, 5, 2, 4, 40);
        x.setBuffer(1, 2);
        return x;
    }

    // ---- What it is

    @Says(in = "What it is", words = "An object is used for at most 512 calls after it has been made")
    private static void lastOf512Calls() {
        Delaypouch x = new Delaypouch();
        for (int i = 0; i < 511; i++) {
            x.pass(10000);
        }
        due("the clock as the 512th call", 5110000, x.clock());
        Delaypouch y = new Delaypouch();
        for (int i = 0; i < 30; i++) {
            y.addContact(0, 1, i, i);
        }
        for (int i = 0; i < 39; i++) {
            y.send(i % 8, (i + 1) % 8, 0, 1, 1);
            y.pass(1);
        }
        for (int i = 0; i < 402; i++) {
            y.pass(10000);
        }
        due("the 511th call", 39, y.send(0, 1, 2, 64, 10000));
        due("the 512th call", 1, y.meet(0, 1, 20));
        due("what it did", 4020039, y.deliveredAt(39));
    }

    // ---- Terms: the calls

    @Says(in = "Terms",
            words = "which node has what, and what the plan promises, can be asked at any time")
    private static void askedAtAnyTime() {
        Delaypouch asked = new Delaypouch();
        Delaypouch other = new Delaypouch();
        due("a new object, asked again", state(asked), state(asked));
        for (Delaypouch x : new Delaypouch[] {asked, other}) {
            boolean asks = x == asked;
            x.addContact(0, 1, 20, 30);
            int unused = asks ? state(x).length() : 0;
            x.send(0, 7, 1, 8, 15);
            unused += asks ? state(x).length() : 0;
            x.meet(0, 1, 2);
            unused += asks ? state(x).length() : 0;
            x.meet(1, 7, 2);
            unused += asks ? state(x).length() : 0;
            x.pass(15);
            due("asks while it happens", asks, unused > 0);
        }
        due("an object that was asked all the time", state(other), state(asked));
        due("asked again", state(asked), state(asked));
        arrives("before another question", asked, 0, 1, 20);
        arrives("the other question", asked, 2, 1, -1);
        arrives("after another question", asked, 0, 1, 20);
    }

    @Says(in = "Terms", words = CHANGES_NOTHING)
    private static void sendThatThrowsChangesNothing() {
        Delaypouch x = busy();
        failsUnchanged("send of no node", INDEX, x, () -> x.send(8, 1, 2, 1, 9));
        failsUnchanged("send to no node", INDEX, x, () -> x.send(1, -1, 2, 1, 9));
        failsUnchanged("send to itself", ARGUMENT, x, () -> x.send(1, 1, 2, 1, 9));
        failsUnchanged("send, priority", ARGUMENT, x, () -> x.send(1, 5, 3, 1, 9));
        failsUnchanged("send, copies", ARGUMENT, x, () -> x.send(1, 5, 2, 0, 9));
        failsUnchanged("send, lifetime", ARGUMENT, x, () -> x.send(1, 5, 2, 1, 0));
        failsUnchanged("send, refused", STATE, x, () -> x.send(1, 5, 0, 1, 9));
        due("the number after those that threw", 4, x.send(1, 5, 2, 1, 9));
        Delaypouch y = busy();
        for (int i = 4; i < 40; i++) {
            y.send(6, 0, 0, 1, 1);
            y.pass(1);
        }
        failsUnchanged("a 41st, that would make 1 drop one", STATE, y, () -> y.send(1, 5, 2, 1, 9));
    }

    @Says(in = "Terms", words = CHANGES_NOTHING)
    private static void meetThatThrowsChangesNothing() {
        Delaypouch x = busy();
        failsUnchanged("meet of no node", INDEX, x, () -> x.meet(8, 0, 20));
        failsUnchanged("meet with no node", INDEX, x, () -> x.meet(0, -1, 20));
        failsUnchanged("meet itself", ARGUMENT, x, () -> x.meet(0, 0, 20));
        failsUnchanged("meet with a receipt, most -1", ARGUMENT, x, () -> x.meet(0, 3, -1));
        failsUnchanged("meet with a receipt, most 21", ARGUMENT, x, () -> x.meet(3, 0, 21));
        failsUnchanged("meet with a delivery, most 21", ARGUMENT, x, () -> x.meet(7, 1, 21));
    }

    @Says(in = "Terms", words = CHANGES_NOTHING)
    private static void passThatThrowsChangesNothing() {
        Delaypouch x = busy();
        for (int seconds : new int[] {0, -1, 10001, MIN, MAX}) {
            failsUnchanged("pass " + seconds, ARGUMENT, x, () -> x.pass(seconds));
        }
    }

    @Says(in = "Terms", words = CHANGES_NOTHING)
    private static void setBufferThatThrowsChangesNothing() {
        Delaypouch x = busy();
        failsUnchanged("setBuffer of no node", INDEX, x, () -> x.setBuffer(8, 5));
        failsUnchanged("setBuffer, places 0", ARGUMENT, x, () -> x.setBuffer(1, 0));
        failsUnchanged("setBuffer, places 9", ARGUMENT, x, () -> x.setBuffer(1, 9));
        failsUnchanged("setBuffer, too few places", STATE, x, () -> x.setBuffer(1, 1));
        due("the places after those that threw", 2, x.setBuffer(1, 2));
    }

    @Says(in = "Terms", words = CHANGES_NOTHING)
    private static void addContactThatThrowsChangesNothing() {
        Delaypouch x = busy();
        failsUnchanged("addContact of no node", INDEX, x, () -> x.addContact(8, 1, 0, 9));
        failsUnchanged("addContact with no node", INDEX, x, () -> x.addContact(1, -1, 0, 9));
        failsUnchanged("addContact with itself", ARGUMENT, x, () -> x.addContact(1, 1, 0, 9));
        failsUnchanged("addContact, first", ARGUMENT, x, () -> x.addContact(1, 2, -1, 9));
        failsUnchanged("addContact, last", ARGUMENT, x, () -> x.addContact(1, 2, 9, 8));
        due("the contacts after those that threw", 3, x.addContact(1, 2, 0, 9));
        for (int i = 4; i <= 29; i++) {
            x.addContact(1, 2, 0, 9);
        }
        x.addContact(4, 5, 50, 60);
        failsUnchanged("a 31st contact", STATE, x, () -> x.addContact(4, 5, 0, 9));
    }

    @Says(in = "Terms", words = CHANGES_NOTHING)
    private static void questionThatThrowsChangesNothing() {
        Delaypouch x = busy();
        String before = state(x);
        for (int no : new int[] {-1, 40, MIN, MAX}) {
            noAnswer(() -> x.endOf(no));
            noAnswer(() -> x.deliveredAt(no));
            noAnswer(() -> x.hops(no));
            noAnswer(() -> x.custodian(no));
            noAnswer(() -> x.holders(no));
            noAnswer(() -> x.copies(no, 0));
            noAnswer(() -> x.knows(0, no));
            noAnswer(() -> x.held(no));
            noAnswer(() -> x.heldAt(1, no));
            noAnswer(() -> x.dropped(no));
            noAnswer(() -> x.refused(no));
            noAnswer(() -> x.arrival(no, 1));
            noAnswer(() -> x.arrivalByRounds(1, no));
            noAnswer(() -> x.promised(no));
        }
        due("the state behind questions that threw", before, state(x));
    }

    private static void noAnswer(Runnable question) {
        fails("a question", INDEX, question);
    }

    @Says(in = "Terms", words = FIRST_NAMED)
    private static void sendThrowsTheFirstNamed() {
        Delaypouch x = fullOfCustody();
        fails("no source, which is the destination", INDEX, () -> x.send(8, 8, 0, 1, 1));
        fails("no destination, all else out of range", INDEX, () -> x.send(0, -1, 3, 0, 0));
        fails("no destination, full source", INDEX, () -> x.send(1, 8, 0, 1, 1));
        fails("to itself, full source", ARGUMENT, () -> x.send(1, 1, 0, 1, 1));
        fails("priority, full source", ARGUMENT, () -> x.send(1, 0, -1, 1, 1));
        fails("copies, full source", ARGUMENT, () -> x.send(1, 0, 0, 65, 1));
        fails("lifetime, full source", ARGUMENT, () -> x.send(1, 0, 0, 1, 10001));
        for (int i = 4; i < 40; i++) {
            x.pass(100);
            x.send(2, 3, 0, 1, 1);
        }
        fails("no source, 40 bundles", INDEX, () -> x.send(-1, 0, 0, 1, 1));
        fails("to itself, 40 bundles", ARGUMENT, () -> x.send(1, 1, 0, 1, 1));
        fails("lifetime, 40 bundles", ARGUMENT, () -> x.send(1, 0, 0, 1, 0));
    }

    @Says(in = "Terms", words = FIRST_NAMED)
    private static void meetThrowsTheFirstNamed() {
        Delaypouch x = new Delaypouch();
        fails("no node, met by itself", INDEX, () -> x.meet(8, 8, 1));
        fails("no node, and most", INDEX, () -> x.meet(-1, 0, 21));
        fails("no other, and most", INDEX, () -> x.meet(0, 8, -1));
    }

    @Says(in = "Terms", words = FIRST_NAMED)
    private static void setBufferThrowsTheFirstNamed() {
        Delaypouch x = fullOfCustody();
        fails("no node, and places 0", INDEX, () -> x.setBuffer(8, 0));
        fails("no node, and places 9", INDEX, () -> x.setBuffer(-1, 9));
        fails("places 0, and more bundles than that", ARGUMENT, () -> x.setBuffer(1, 0));
        fails("places -1, and more bundles than that", ARGUMENT, () -> x.setBuffer(1, -1));
    }

    @Says(in = "Terms", words = FIRST_NAMED)
    private static void addContactThrowsTheFirstNamed() {
        Delaypouch x = new Delaypouch();
        fails("no node, both the same", INDEX, () -> x.addContact(8, 8, 0, 0));
        fails("no other, and first", INDEX, () -> x.addContact(0, -1, -1, 5));
        for (int i = 0; i < 30; i++) {
            x.addContact(0, 1, 0, 0);
        }
        fails("no node, 30 contacts", INDEX, () -> x.addContact(0, 8, 0, 0));
        fails("both the same, 30 contacts", ARGUMENT, () -> x.addContact(1, 1, 0, 0));
        fails("last, 30 contacts", ARGUMENT, () -> x.addContact(0, 1, 1, 0));
    }

    @Says(in = "Terms", words = "There are 8 nodes, 0 to 7.")
    private static void nodesFrom0To7() {
        for (int n = 0; n < 8; n++) {
            Delaypouch x = new Delaypouch();
            int other = 7 - n;
            due("send of " + n, 0, x.send(n, other, 0, 1, 9));
            due("its custodian", n, x.custodian(0));
            due("addContact of " + n, 1, x.addContact(n, other, 3, 3));
            due("addContact with " + n, 2, x.addContact(other, n, 4, 4));
            due("setBuffer of " + n, 4, x.setBuffer(n, 8));
            due("copies of " + n, 1, x.copies(n, 0));
            due("held of " + n, 1, x.held(n));
            due("heldAt of " + n, 0, x.heldAt(n, 0));
            due("dropped of " + n, 0, x.dropped(n));
            due("refused of " + n, 0, x.refused(n));
            arrives("arrival from " + n, x, n, other, 3);
            due("meet of " + n, 1, x.meet(n, other, 1));
            due("knows of " + n, true, x.knows(n, 0));
        }
    }

    @Says(in = "Terms", words = "The clock counts seconds, from 0 on.")
    private static void clockCountsFrom0() {
        Delaypouch x = new Delaypouch();
        due("at first", 0, x.clock());
        x.pass(1);
        due("after one second", 1, x.clock());
        x.pass(10000);
        x.pass(1);
        due("after three times", 10002, x.clock());
    }

    @Says(in = "Terms",
            words = "There can be 40 bundles, numbered from 0 in the order in which they are sent.")
    private static void fortyBundles() {
        Delaypouch x = new Delaypouch();
        for (int n = 0; n < 8; n++) {
            x.setBuffer(n, 5);
        }
        for (int i = 0; i < 39; i++) {
            due("a number", i, x.send(i % 8, (i + 3) % 8, i % 3, 1 + i, 40 - i));
            x.pass(1);
        }
        due("the 40th", 39, x.send(7, 0, 0, 1, 1));
        due("the 40th's end", 40, x.endOf(39));
        due("the first's end", 40, x.endOf(0));
        fails("the 41st", STATE, () -> x.send(0, 1, 2, 1, 1));
        x.pass(10000);
        fails("the 41st, when all others are over", STATE, () -> x.send(0, 1, 2, 1, 1));
        due("bundles", 40, x.bundles());
    }

    @Says(in = "Terms",
            words = "A bundle has a source, a destination, a priority from 0 to 2, and an end: "
            + "the second at which it was sent and its lifetime, together.")
    private static void endIsSecondAndLifetimeTogether() {
        Delaypouch x = new Delaypouch();
        x.send(0, 1, 0, 1, 1);
        x.send(0, 1, 0, 1, 10000);
        x.pass(7);
        x.send(0, 1, 0, 1, 1);
        x.send(0, 1, 0, 1, 10000);
        due("lifetime 1 at 0", 1, x.endOf(0));
        due("lifetime 10000 at 0", 10000, x.endOf(1));
        due("lifetime 1 at 7", 8, x.endOf(2));
        due("lifetime 10000 at 7", 10007, x.endOf(3));
    }

    @Says(in = "Terms", words = "Bundles are ordered by falling priority")
    private static void orderByFallingPriority() {
        Delaypouch x = new Delaypouch();
        x.send(0, 7, 0, 1, 10);
        x.send(0, 7, 1, 1, 20);
        x.send(0, 7, 2, 1, 30);
        x.send(0, 7, 1, 1, 5);
        due("the order", "2 3 1 0", held(x, 0));
    }

    @Says(in = "Terms", words = "those of the same priority by rising end")
    private static void orderByRisingEnd() {
        Delaypouch x = new Delaypouch();
        x.send(0, 7, 1, 1, 21);
        x.send(0, 7, 1, 1, 20);
        x.pass(5);
        x.send(0, 7, 1, 1, 17);
        x.send(0, 7, 1, 1, 14);
        due("the order, by the end and not by the lifetime", "3 1 0 2", held(x, 0));
    }

    @Says(in = "Terms", words = "those of the same end too by rising number")
    private static void orderByRisingNumber() {
        Delaypouch x = new Delaypouch();
        x.send(0, 7, 1, 1, 20);
        x.send(0, 7, 1, 64, 20);
        x.pass(5);
        x.send(0, 7, 1, 2, 15);
        x.send(0, 6, 1, 1, 15);
        due("the order", "0 1 2 3", held(x, 0));
    }

    // ---- Terms: buffers

    @Says(in = "Terms", words = "Each node has a buffer of 4 places at first.")
    private static void fourPlacesAtFirst() {
        for (int n = 0; n < 8; n++) {
            int node = n;
            Delaypouch x = new Delaypouch();
            for (int i = 0; i < 4; i++) {
                due("one of four", i, x.send(node, 7 - node, 0, 1, 9));
            }
            fails("a fifth", STATE, () -> x.send(node, 7 - node, 0, 1, 9));
            due("the places", 4, x.setBuffer(node, 4));
        }
    }

    @Says(in = "Terms", words = "A bundle that a node has takes one place, whatever copies it has.")
    private static void onePlaceWhateverCopies() {
        Delaypouch x = new Delaypouch();
        x.send(0, 7, 0, 64, 9);
        x.send(0, 7, 0, 1, 9);
        x.send(0, 7, 0, 2, 9);
        due("a fourth of 64 copies", 3, x.send(0, 7, 0, 64, 9));
        due("held", 4, x.held(0));
        fails("a fifth of one copy", STATE, () -> x.send(0, 7, 0, 1, 9));
        x.meet(0, 1, 20);
        fails("a fifth, with half of the copies gone", STATE, () -> x.send(0, 7, 0, 1, 9));
    }

    @Says(in = "Terms", words = "A node has a number of copies of a bundle that it has, 1 at least.")
    private static void oneCopyAtLeast() {
        Delaypouch x = new Delaypouch();
        x.send(0, 7, 0, 2, 9);
        x.send(0, 7, 0, 3, 9);
        x.send(0, 7, 0, 1, 9);
        due("those of two and three are sprayed", 2, x.meet(0, 1, 20));
        due("two of the taker", "0 1", held(x, 1));
        due("three of the giver", "0 1 2", held(x, 0));
        for (int b = 0; b < 2; b++) {
            due("the taker's copies", 1, x.copies(1, b));
            due("the giver's copies", b + 1, x.copies(0, b));
        }
        due("the copy of the last", 1, x.copies(0, 2));
        due("no copy of the last", 0, x.copies(1, 2));
    }

    @Says(in = "Terms", words = "When a bundle comes to a node whose buffer is full")
    private static void onePlaceLeftIsNotFull() {
        Delaypouch x = fullOfForeign();
        x.setBuffer(1, 5);
        due("send to the last place", 4, x.send(1, 6, 2, 1, 9));
        due("nothing is dropped", "4 3 2 0 1", held(x, 1));
        Delaypouch y = fullOfForeign();
        y.setBuffer(1, 5);
        y.send(3, 6, 0, 2, 9);
        due("spray to the last place", 1, y.meet(3, 1, 20));
        due("nothing is dropped in a meeting", "3 4 2 0 1", held(y, 1));
        due("nothing is counted", 0, x.dropped(1) + y.dropped(1) + y.refused(1));
    }

    @Says(in = "Terms",
            words = "the node drops, of the bundles that it has and is not the custodian of, "
            + "the last one in the order, if that has a lower priority than the bundle that comes")
    private static void fullSendDropsTheLastInOrder() {
        Delaypouch x = fullOfForeign();
        due("send", 4, x.send(1, 6, 1, 1, 100));
        due("the last by number is dropped", "3 4 2 0", held(x, 1));
        due("send", 5, x.send(1, 6, 1, 1, 100));
        due("the last by end is dropped", "3 4 5 2", held(x, 1));
        due("send", 6, x.send(1, 6, 1, 1, 100));
        due("the last by priority is dropped", "3 4 5 6", held(x, 1));
        due("send", 7, x.send(1, 6, 2, 1, 100));
        due("just a custodian's are left", "7 4 5 6", held(x, 1));
        due("dropped", 4, x.dropped(1));
    }

    @Says(in = "Terms",
            words = "the node drops, of the bundles that it has and is not the custodian of, "
            + "the last one in the order, if that has a lower priority than the bundle that comes")
    private static void fullMeetingDropsTheLastInOrder() {
        Delaypouch x = fullOfForeign();
        x.send(3, 6, 2, 2, 100);
        x.send(3, 6, 1, 2, 100);
        due("two come", 2, x.meet(1, 3, 20));
        due("the last two are dropped", "4 3 5 2", held(x, 1));
        due("dropped", 2, x.dropped(1));
        due("the giver drops none", 0, x.dropped(3));
    }

    @Says(in = "Terms", words = "of the bundles that it has and is not the custodian of")
    private static void fullKeepsTheCustodians() {
        Delaypouch x = new Delaypouch();
        x.setBuffer(1, 2);
        x.send(1, 6, 0, 1, 1000);
        x.send(0, 7, 0, 2, 10);
        x.meet(0, 1, 1);
        due("its own is the last", "1 0", held(x, 1));
        due("send", 2, x.send(1, 6, 1, 1, 9));
        due("the other one is dropped", "2 0", held(x, 1));
        Delaypouch y = new Delaypouch();
        y.setBuffer(1, 2);
        y.send(1, 6, 0, 1, 1000);
        y.send(0, 7, 1, 2, 10);
        y.meet(0, 1, 1);
        fails("a lower one in custody is none to drop", STATE, () -> y.send(1, 6, 1, 1, 9));
    }

    @Says(in = "Terms", words = "if that has a lower priority than the bundle that comes; "
            + "otherwise the bundle that comes is refused")
    private static void fullRefusesTheSamePriority() {
        Delaypouch x = new Delaypouch();
        x.setBuffer(1, 1);
        x.send(0, 7, 1, 2, 100);
        x.meet(0, 1, 1);
        failsUnchanged("the same priority and an earlier end", STATE, x, () -> x.send(1, 6, 1, 1, 1));
        x.send(2, 6, 1, 2, 1);
        due("the same priority in a meeting", 0, x.meet(1, 2, 20));
        due("it is refused", 1, x.refused(1));
        due("the node has the other one still", "0", held(x, 1));
        x.send(3, 6, 2, 2, 100);
        due("a priority higher by one", 1, x.meet(1, 3, 20));
        due("it takes the place", "2", held(x, 1));
    }

    @Says(in = "Terms", words = "if that has a lower priority than the bundle that comes; "
            + "otherwise the bundle that comes is refused")
    private static void fullRefusesALowerPriority() {
        Delaypouch x = new Delaypouch();
        x.setBuffer(1, 1);
        x.send(0, 7, 2, 2, 100);
        x.meet(0, 1, 1);
        failsUnchanged("a lower priority", STATE, x, () -> x.send(1, 6, 1, 1, 1));
        failsUnchanged("the lowest priority", STATE, x, () -> x.send(1, 6, 0, 1, 1));
        x.send(2, 6, 0, 2, 1);
        due("the lowest priority in a meeting", 0, x.meet(2, 1, 20));
        due("the node has the other one still", "0", held(x, 1));
    }

    @Says(in = "Terms", words = "otherwise the bundle that comes is refused")
    private static void fullOfCustodyRefuses() {
        Delaypouch x = fullOfCustody();
        failsUnchanged("the highest priority", STATE, x, () -> x.send(1, 6, 2, 1, 1));
        x.send(0, 7, 2, 2, 1);
        due("the highest priority in a meeting", 0, x.meet(0, 1, 20));
        due("it is refused", 1, x.refused(1));
        due("all are there still", "0 1 2 3", held(x, 1));
        due("the giver has all copies still", 2, x.copies(0, 4));
    }

    @Says(in = "Terms", words = "A bundle that is dropped at a node is gone there with all its copies.")
    private static void droppedWithAllCopies() {
        Delaypouch x = new Delaypouch();
        x.setBuffer(1, 1);
        x.send(0, 7, 0, 64, 100);
        x.meet(0, 1, 1);
        due("copies there", 32, x.copies(1, 0));
        x.send(1, 6, 1, 1, 9);
        due("no copies there", 0, x.copies(1, 0));
        due("just one held", "1", held(x, 1));
        due("the others' copies are as they were", 32, x.copies(0, 0));
        due("holders", 1, x.holders(0));
        due("it is not delivered from there", 0, x.meet(1, 7, 20));
        x.pass(9);
        due("it may come again", 1, x.meet(0, 1, 1));
        due("with half of what the giver has", 16, x.copies(1, 0));
    }

    // ---- Terms: custody, time, receipts

    @Says(in = "Terms", words = "A bundle has one custodian from when it is sent, its source at first.")
    private static void sourceIsCustodianAtFirst() {
        for (int n = 0; n < 8; n++) {
            Delaypouch x = new Delaypouch();
            x.send(n, 7 - n, 0, 4, 9);
            due("the custodian", n, x.custodian(0));
        }
    }

    @Says(in = "Terms", words = "Custody ends when the custodian learns that the bundle is delivered")
    private static void custodyEndsByLearning() {
        Delaypouch x = deliveredByOne();
        due("it is delivered, and the custodian does not know", 0, x.custodian(0));
        x.meet(7, 2, 0);
        due("another one learned", 0, x.custodian(0));
        x.meet(1, 0, 0);
        due("the custodian learned", -1, x.custodian(0));
        Delaypouch y = endsAtTen();
        y.meet(0, 7, 1);
        due("the custodian delivered", -1, y.custodian(0));
    }

    @Says(in = "Terms", words = "or when the time of the bundle is over")
    private static void custodyEndsByTime() {
        Delaypouch x = endsAtTen();
        x.pass(9);
        due("a second before", 0, x.custodian(0));
        x.pass(1);
        due("at its end", -1, x.custodian(0));
        Delaypouch y = deliveredByOne();
        y.pass(10);
        due("at the end of a delivered one", -1, y.custodian(0));
    }

    @Says(in = "Terms", words = "A custodian always has the bundle.")
    private static void custodianAlwaysHasIt() {
        Delaypouch x = new Delaypouch();
        for (int n = 0; n < 3; n++) {
            x.setBuffer(n, 1);
        }
        x.addContact(1, 7, 50, 60);
        x.send(0, 7, 0, 8, 100);
        x.meet(0, 1, 1);
        due("custody moved", 1, x.custodian(0));
        fails("the custodian is full", STATE, () -> x.send(1, 6, 2, 1, 9));
        x.send(2, 6, 2, 2, 9);
        due("it refuses in a meeting", 0, x.meet(2, 1, 20));
        due("who was custodian drops it", 2, x.send(0, 6, 1, 1, 9));
        due("the custodian has it still", 1 << 1, x.holders(0));
        due("the custodian", 1, x.custodian(0));
    }

    @Says(in = "Terms", words = "As soon as the clock is at least the end of a bundle")
    private static void aSecondBeforeTheEnd() {
        Delaypouch x = endsAtTen();
        due("over by then", 0, x.pass(9));
        due("holders", 7, x.holders(0));
        due("the custodian", 0, x.custodian(0));
        due("it is sprayed", 1, x.meet(2, 3, 1));
        due("it is delivered", 1, x.meet(3, 7, 1));
        due("at this second", 9, x.deliveredAt(0));
    }

    @Says(in = "Terms",
            words = "it is gone at all nodes, its custody ends, and it cannot be delivered any more")
    private static void atTheEnd() {
        for (int seconds : new int[] {10, 11, 10000}) {
            Delaypouch x = endsAtTen();
            due("over by then", 1, x.pass(seconds));
            due("holders", 0, x.holders(0));
            due("the custodian", -1, x.custodian(0));
            for (int n = 0; n < 8; n++) {
                due("held", 0, x.held(n));
                due("copies", 0, x.copies(n, 0));
            }
            due("no delivery", 0, x.meet(0, 7, 20) + x.meet(7, 1, 20) + x.meet(2, 7, 20));
            due("no spray", 0, x.meet(0, 3, 20));
            due("not delivered", -1, x.deliveredAt(0));
            due("nobody knows it", false, x.knows(7, 0));
            due("its place is free", 1, x.setBuffer(1, 1) - 3);
        }
    }

    @Says(in = "Terms", words = "What is known of delivered bundles stays known.")
    private static void knownStaysKnown() {
        Delaypouch x = deliveredByOne();
        x.pass(10000);
        for (int n = 0; n < 8; n++) {
            due("known at " + n, n == 1 || n == 7, x.knows(n, 0));
        }
        due("delivered", 0, x.deliveredAt(0));
        due("hops", 2, x.hops(0));
        x.meet(7, 5, 0);
        due("learned when it is over", true, x.knows(5, 0));
    }

    @Says(in = "Terms", words = "A node that learns that a bundle is delivered drops it, "
            + "and if it is its custodian, custody ends.")
    private static void learningDropsIt() {
        Delaypouch x = deliveredByOne();
        due("who has it", 1 | 1 << 2, x.holders(0));
        x.meet(2, 1, 0);
        due("one dropped it", 1, x.holders(0));
        due("its copies", 0, x.copies(2, 0));
        due("no custodian was it", 0, x.custodian(0));
        x.meet(5, 2, 0);
        due("one that has it not learns too", true, x.knows(5, 0));
        x.meet(0, 5, 0);
        due("the custodian dropped it", 0, x.holders(0));
        due("custody ended", -1, x.custodian(0));
        due("no full buffer made them drop it", 0, x.dropped(0) + x.dropped(1) + x.dropped(2));
    }

    // ---- Terms: meetings

    @Says(in = "Terms",
            words = "Each of both learns of all bundles of which the other one knows that "
            + "they are delivered.")
    private static void eachLearnsAll() {
        Delaypouch x = new Delaypouch();
        for (int i = 0; i < 40; i++) {
            x.send(i % 2 == 0 ? 0 : 1, i % 2 == 0 ? 2 : 3, 0, 1, 5);
            x.meet(i % 2 == 0 ? 0 : 1, i % 2 == 0 ? 2 : 3, 1);
        }
        due("nothing is to be done", 0, x.meet(2, 3, 0));
        for (int i = 0; i < 40; i++) {
            due("2 learned of " + i, true, x.knows(2, i));
            due("3 learned of " + i, true, x.knows(3, i));
            due("0 learned nothing", i % 2 == 0, x.knows(0, i));
            due("4 learned nothing", false, x.knows(4, i));
        }
    }

    @Says(in = "Terms",
            words = "Each of both learns of all bundles of which the other one knows that "
            + "they are delivered.")
    private static void learningComesFirst() {
        Delaypouch x = deliveredByOne();
        due("no spray to one who knows", 0, x.meet(0, 1, 20));
        due("no holder of both is left", 1 << 2, x.holders(0));
        Delaypouch y = deliveredByOne();
        due("no second delivery", 0, y.meet(0, 7, 20));
        due("the first one's hops", 2, y.hops(0));
        Delaypouch z = deliveredByOne();
        z.setBuffer(0, 1);
        z.send(3, 6, 0, 2, 9);
        z.meet(7, 3, 0);
        due("the place of what is learned is free", 1, z.meet(3, 0, 20));
        due("it is there", "1", held(z, 0));
    }

    @Says(in = "Terms", words = "To be delivered are the bundles that one of both has "
            + "and whose destination is the other one.")
    private static void toBeDelivered() {
        Delaypouch x = new Delaypouch();
        x.send(0, 7, 0, 1, 9);
        x.send(0, 7, 0, 64, 9);
        x.send(7, 0, 0, 1, 9);
        x.send(1, 7, 0, 1, 9);
        x.send(0, 6, 0, 1, 9);
        due("one copy, all copies, and the other way", 3, x.meet(0, 7, 20));
        for (int b = 0; b < 5; b++) {
            due("delivered " + b, b < 3 ? 0 : -1, x.deliveredAt(b));
        }
        due("hands are free", 1 << 1, x.holders(3));
        due("not its destination", 1, x.holders(4));
    }

    @Says(in = "Terms", words = "To be delivered are the bundles that one of both has "
            + "and whose destination is the other one.")
    private static void fullDestinationGetsIt() {
        Delaypouch x = fullOfCustody();
        x.send(0, 1, 0, 1, 9);
        due("delivered to a full node", 1, x.meet(0, 1, 20));
        due("delivered", 0, x.deliveredAt(4));
        due("it takes no place", "0 1 2 3", held(x, 1));
        due("nothing dropped or refused", 0, x.dropped(1) + x.refused(1));
    }

    @Says(in = "Terms", words = "of which one of both has at least 2 copies")
    private static void oneCopyIsNotSprayed() {
        Delaypouch x = new Delaypouch();
        x.send(0, 7, 2, 1, 9);
        due("one copy", 0, x.meet(0, 1, 20));
        due("it stays", 1, x.holders(0));
        x.send(0, 7, 0, 2, 9);
        due("two copies", 1, x.meet(1, 0, 20));
        due("they are at both", 3, x.holders(1));
        due("no more of them", 0, x.meet(0, 2, 20) + x.meet(2, 1, 20));
    }

    @Says(in = "Terms", words = "and which the other one does not have")
    private static void notSprayedToOneWhoHasIt() {
        Delaypouch x = new Delaypouch();
        x.send(0, 7, 0, 64, 9);
        x.meet(0, 1, 1);
        due("both have it", 0, x.meet(0, 1, 20) + x.meet(1, 0, 20));
        due("copies of 0", 32, x.copies(0, 0));
        due("copies of 1", 32, x.copies(1, 0));
        x.meet(0, 2, 20);
        due("one has fewer", 0, x.meet(1, 2, 20));
        due("copies of 2", 16, x.copies(2, 0));
    }

    @Says(in = "Terms", words = "To be sprayed are the bundles, whose destination is neither of both")
    private static void notSprayedToItsDestination() {
        Delaypouch x = new Delaypouch();
        x.send(0, 1, 0, 8, 9);
        due("no transfer is allowed", 0, x.meet(0, 1, 0));
        due("it is at its source", 1, x.holders(0));
        due("one transfer, the delivery", 1, x.meet(0, 1, 20));
        due("the destination has it not", 0, x.copies(1, 0));
        due("all copies of the source are gone", 0, x.copies(0, 0));
    }

    /** Both have bundle 0; 1 drops it for bundle 1, and has then what 0 could spray. */
    @Says(in = "Terms", words = "It is found out what is to be done.")
    private static void foundOutBeforeItIsDone() {
        Delaypouch x = new Delaypouch();
        x.setBuffer(1, 1);
        x.send(0, 7, 0, 8, 100);
        x.meet(0, 1, 1);
        x.send(0, 7, 2, 2, 100);
        due("just the new one", 1, x.meet(0, 1, 20));
        due("it is there", "1", held(x, 1));
        due("the dropped one is not offered again", 0, x.refused(1));
        due("its copies at the giver", 4, x.copies(0, 0));
    }

    @Says(in = "Terms",
            words = "It is done, as long as fewer transfers have been made in this meeting "
            + "than it allows")
    private static void noMoreThanItAllows() {
        for (int most = 0; most <= 6; most++) {
            Delaypouch x = new Delaypouch();
            x.send(0, 1, 0, 1, 9);
            x.send(1, 0, 0, 1, 9);
            x.send(0, 7, 2, 2, 9);
            x.send(1, 7, 2, 2, 9);
            due("transfers of " + most, Math.min(most, 4), x.meet(0, 1, most));
            for (int b = 0; b < 2; b++) {
                due("delivery " + b + " of " + most, b < most ? 0 : -1, x.deliveredAt(b));
                due("spray " + b + " of " + most, b + 2 < most ? 3 : 1 << b, x.holders(b + 2));
            }
        }
    }

    @Says(in = "Terms",
            words = "as long as fewer transfers have been made in this meeting than it allows")
    private static void eachMeetingCountsAnew() {
        Delaypouch x = new Delaypouch();
        for (int i = 0; i < 4; i++) {
            x.send(0, 7, 0, 2, 9);
        }
        due("three", 3, x.meet(0, 1, 3));
        due("and the fourth", 1, x.meet(0, 1, 3));
        due("and none", 0, x.meet(0, 1, 3));
    }

    @Says(in = "Terms",
            words = "as long as fewer transfers have been made in this meeting than it allows")
    private static void behindTheLimitNothingIsTried() {
        Delaypouch x = fullOfCustody();
        x.send(0, 7, 0, 2, 9);
        due("no transfer is allowed", 0, x.meet(0, 1, 0));
        due("nothing is refused", 0, x.refused(1));
        x.send(0, 1, 0, 1, 9);
        due("just the delivery is allowed", 1, x.meet(0, 1, 1));
        due("nothing is refused behind it", 0, x.refused(1));
        Delaypouch y = fullOfForeign();
        y.send(3, 6, 2, 2, 9);
        due("no transfer", 0, y.meet(3, 1, 0));
        due("nothing is dropped", 0, y.dropped(1));
        y.send(3, 6, 1, 2, 9);
        due("just one", 1, y.meet(3, 1, 1));
        due("nothing is dropped behind it", 1, y.dropped(1));
    }

    @Says(in = "Terms", words = "first what is to be delivered, in the order of bundles")
    private static void deliveriesFirstAndInOrder() {
        int[] order = {3, 4, 2, 1};
        for (int most = 1; most <= 4; most++) {
            Delaypouch x = new Delaypouch();
            x.send(0, 7, 2, 8, 1);
            x.send(0, 1, 0, 1, 9);
            x.send(1, 0, 1, 1, 9);
            x.send(0, 1, 1, 1, 8);
            x.send(1, 0, 1, 1, 8);
            due("deliveries", most, x.meet(1, 0, most));
            for (int i = 0; i < 4; i++) {
                due("delivery " + i + " of " + most, i < most ? 0 : -1, x.deliveredAt(order[i]));
            }
            due("no spray yet", 1, x.holders(0));
        }
    }

    @Says(in = "Terms", words = "then what is to be sprayed, in the order of bundles")
    private static void spraysInOrder() {
        int[] order = {3, 2, 1, 0};
        for (int most = 1; most <= 4; most++) {
            Delaypouch x = new Delaypouch();
            x.send(0, 7, 0, 2, 9);
            x.send(0, 7, 1, 2, 9);
            x.send(1, 7, 1, 2, 8);
            x.send(0, 7, 2, 2, 9);
            due("sprays", most, x.meet(0, 1, most));
            for (int i = 0; i < 4; i++) {
                int b = order[i];
                due("spray " + i + " of " + most, i < most ? 3 : b == 2 ? 2 : 1, x.holders(b));
            }
        }
    }

    @Says(in = "Terms",
            words = "To deliver a bundle is a transfer: the destination, and the node that has it, "
            + "learn that it is delivered.")
    private static void deliveryIsATransfer() {
        Delaypouch x = endsAtTen();
        due("the delivery", 1, x.meet(7, 2, 1));
        for (int n = 0; n < 8; n++) {
            due(n + " knows", n == 2 || n == 7, x.knows(n, 0));
        }
        due("the others have it still", 3, x.holders(0));
    }

    @Says(in = "Terms", words = "the node that has it, learn that it is delivered")
    private static void deliveryFreesAPlace() {
        Delaypouch x = new Delaypouch();
        x.setBuffer(0, 1);
        x.send(0, 1, 0, 1, 9);
        x.send(1, 7, 0, 2, 9);
        due("one goes, one comes", 2, x.meet(0, 1, 20));
        due("what came", "1", held(x, 0));
        due("nothing refused", 0, x.refused(0));
    }

    @Says(in = "Terms",
            words = "To spray a bundle is a transfer, too: if the node that has it has c copies, "
            + "the other node gets half of c, rounded down, and the node keeps the others.")
    private static void halfRoundedDown() {
        for (int copies = 2; copies <= 64; copies++) {
            Delaypouch x = new Delaypouch();
            x.send(0, 7, 0, copies, 9);
            due("a transfer", 1, x.meet(0, 1, 1));
            due("half of " + copies, copies / 2, x.copies(1, 0));
            due("the others of " + copies, copies - copies / 2, x.copies(0, 0));
        }
    }

    /** The first in the order is refused by 1; the second, which 1 sprays, is then the one allowed. */
    @Says(in = "Terms", words = {"If the other node refuses the bundle",
        "nothing is done with it, and that is no transfer"})
    private static void refusedIsNoTransfer() {
        Delaypouch x = new Delaypouch();
        x.setBuffer(1, 1);
        x.send(0, 7, 2, 2, 9);
        x.send(1, 6, 0, 2, 9);
        due("one transfer", 1, x.meet(0, 1, 1));
        due("not the refused one", 1, x.holders(0));
        due("its copies", 2, x.copies(0, 0));
        due("its custodian", 0, x.custodian(0));
        due("the other one", 3, x.holders(1));
        due("refused", 1, x.refused(1));
    }

    /** 1 drops bundle 0 for 2, which comes before it in the order; then bundle 1 has its turn. */
    @Says(in = "Terms", words = {"or the node has dropped it meanwhile, nothing is done with it",
        "and that is no transfer"})
    private static void droppedMeanwhileIsNoTransfer() {
        Delaypouch x = new Delaypouch();
        x.setBuffer(1, 2);
        x.send(0, 7, 0, 8, 50);
        x.send(1, 7, 0, 4, 60);
        x.meet(0, 1, 1);
        x.send(2, 7, 1, 2, 50);
        due("two transfers", 2, x.meet(1, 2, 2));
        due("what 1 has", "2 1", held(x, 1));
        due("what 2 has", "2 1", held(x, 2));
        due("the dropped one", 1, x.holders(0));
        due("it is refused by none", 0, x.refused(1) + x.refused(2));
        due("it is dropped", 1, x.dropped(1));
    }

    @Says(in = "Terms",
            words = "if one of them is its custodian, and the plan promises an earlier arrival at its "
            + "destination from the other one, the other one becomes its custodian")
    private static void custodyMovesToTheEarlier() {
        for (int second = 9; second <= 11; second++) {
            Delaypouch x = new Delaypouch();
            x.addContact(0, 7, 10, 20);
            x.addContact(1, 7, second, 20);
            x.send(0, 7, 0, 4, 5);
            x.meet(second % 2, 1 - second % 2, 1);
            due("custody with " + second + " and 10", second < 10 ? 1 : 0, x.custodian(0));
            x.meet(0, 1, 0);
            due("custody again", second < 10 ? 1 : 0, x.custodian(0));
        }
    }

    @Says(in = "Terms", words = "For each bundle that both have then")
    private static void custodyOfWhatBothHaveThen() {
        Delaypouch x = new Delaypouch();
        x.addContact(1, 7, 10, 20);
        x.send(0, 7, 0, 4, 5);
        x.send(0, 7, 0, 1, 5);
        x.meet(0, 1, 20);
        due("custody of what came just now", 1, x.custodian(0));
        due("custody of what did not come", 0, x.custodian(1));
        Delaypouch y = fullOfCustody();
        y.addContact(1, 7, 10, 20);
        y.send(0, 7, 2, 4, 5);
        y.meet(0, 1, 20);
        due("custody of what was refused", 0, y.custodian(4));
        Delaypouch z = new Delaypouch();
        z.setBuffer(1, 1);
        z.send(0, 7, 0, 4, 5);
        z.meet(0, 1, 20);
        z.addContact(1, 7, 10, 20);
        z.send(0, 6, 1, 4, 5);
        z.meet(0, 1, 20);
        due("custody of what was dropped meanwhile", 0, z.custodian(0));
        due("it is at its custodian", 1, z.holders(0));
    }

    @Says(in = "Terms", words = "For each bundle that both have then, by rising numbers")
    private static void custodyOfEachBundle() {
        Delaypouch x = new Delaypouch();
        x.addContact(0, 7, 10, 20);
        x.addContact(1, 6, 10, 20);
        x.send(0, 6, 0, 4, 5);
        x.send(1, 7, 0, 4, 5);
        x.send(0, 6, 2, 4, 5);
        x.send(0, 7, 2, 4, 5);
        x.meet(0, 1, 20);
        int[] want = {1, 0, 1, 0};
        for (int b = 0; b < 4; b++) {
            due("custody of " + b, want[b], x.custodian(b));
        }
    }

    @Says(in = "Terms", words = "if one of them is its custodian")
    private static void custodyOfAThirdStays() {
        Delaypouch x = new Delaypouch();
        x.send(0, 7, 0, 8, 100);
        x.meet(0, 1, 1);
        x.addContact(2, 7, 10, 20);
        due("sprayed by one that is not the custodian", 1, x.meet(1, 2, 1));
        due("custody stays", 0, x.custodian(0));
        x.meet(2, 1, 0);
        due("custody stays the other way round", 0, x.custodian(0));
        x.meet(0, 2, 0);
        due("custody moves without a transfer", 2, x.custodian(0));
        Delaypouch y = deliveredByOne();
        y.meet(0, 1, 0);
        y.addContact(3, 7, 10, 20);
        y.meet(2, 3, 1);
        y.meet(3, 2, 1);
        due("both have it", 1 << 2 | 1 << 3, y.holders(0));
        due("custody that has ended stays so", -1, y.custodian(0));
    }

    // ---- Terms: the plan

    @Says(in = "Terms", words = "A contact has two nodes, a first and a last second; "
            + "both nodes can meet at each second from the first to the last one.")
    private static void contactFromFirstToLast() {
        Delaypouch x = new Delaypouch();
        x.addContact(2, 5, 3, 5);
        int[] want = {3, 3, 3, 3, 4, 5, -1, -1};
        for (int second = 0; second < want.length; second++) {
            arrives("at " + second, x, 2, 5, want[second]);
            arrives("the other way at " + second, x, 5, 2, want[second]);
            x.pass(1);
        }
    }

    @Says(in = "Terms", words = "a first and a last second")
    private static void contactOfOneSecond() {
        Delaypouch x = new Delaypouch();
        x.addContact(0, 1, 0, 0);
        x.addContact(1, 2, 100000, 100000);
        arrives("at the first second of all", x, 0, 1, 0);
        arrives("at the last second of all", x, 1, 2, 100000);
        arrives("over both", x, 0, 2, 100000);
        x.pass(1);
        arrives("after the first", x, 0, 1, -1);
        for (int i = 0; i < 9; i++) {
            x.pass(10000);
        }
        x.pass(9999);
        arrives("now is the last", x, 2, 1, 100000);
        x.pass(1);
        arrives("after the last", x, 2, 1, -1);
    }

    @Says(in = "Terms", words = "There can be 30 contacts.")
    private static void thirtyContacts() {
        Delaypouch x = new Delaypouch();
        for (int i = 1; i <= 29; i++) {
            due("a contact", i, x.addContact(0, 1, 0, 0));
        }
        x.pass(10);
        arrives("by none of 29 that are over", x, 6, 5, -1);
        due("the 30th", 30, x.addContact(5, 6, 70, 90));
        arrives("by the 30th", x, 6, 5, 70);
        fails("the 31st", STATE, () -> x.addContact(0, 1, 0, 0));
        x.pass(1000);
        fails("the 31st, when all are over", STATE, () -> x.addContact(0, 1, 0, 0));
    }

    @Says(in = "Terms", words = "is the earliest second, not before the clock")
    private static void arrivalNotBeforeTheClock() {
        Delaypouch x = new Delaypouch();
        x.addContact(0, 1, 0, 100);
        x.addContact(1, 2, 20, 100);
        x.pass(19);
        arrives("in a contact", x, 0, 1, 19);
        arrives("before its first second", x, 0, 2, 20);
        x.pass(1);
        arrives("at its first second", x, 0, 2, 20);
        x.pass(1);
        arrives("after its first second", x, 0, 2, 21);
    }

    @Says(in = "Terms", words = "if nodes met just by the contacts of the plan, at any of their seconds")
    private static void arrivalByContactsAlone() {
        Delaypouch x = new Delaypouch();
        x.meet(0, 1, 20);
        arrives("a meeting is no contact", x, 0, 1, -1);
        x.addContact(0, 1, 5, 8);
        x.addContact(1, 2, 8, 9);
        x.addContact(2, 3, 2, 7);
        x.addContact(0, 3, 30, 30);
        arrives("the last second of one is the first of the next", x, 0, 2, 8);
        arrives("one that is over then", x, 0, 3, 30);
        arrives("one that waits", x, 3, 0, 8);
        x.pass(8);
        arrives("at the last second, then the next", x, 0, 2, 8);
    }

    @Says(in = "Terms", words = "is the earliest second")
    private static void arrivalIsTheEarliest() {
        Delaypouch x = new Delaypouch();
        x.addContact(0, 7, 40, 90);
        x.addContact(0, 1, 10, 90);
        x.addContact(1, 7, 30, 90);
        x.addContact(0, 2, 20, 90);
        x.addContact(2, 7, 25, 90);
        x.addContact(2, 7, 35, 90);
        arrives("the second of three ways", x, 0, 7, 25);
        x.addContact(1, 2, 12, 12);
        x.addContact(2, 7, 12, 12);
        arrives("a longer one", x, 0, 7, 12);
    }

    @Says(in = "Terms", words = "and each meeting took no time")
    private static void meetingsTakeNoTime() {
        Delaypouch x = new Delaypouch();
        for (int n = 0; n < 7; n++) {
            x.addContact(n, n + 1, 5, 5);
        }
        Delaypouch y = new Delaypouch();
        for (int n = 7; n > 0; n--) {
            y.addContact(n, n - 1, 5, 5);
        }
        arrives("all the way in one second", x, 0, 7, 5);
        arrives("all the way back", x, 7, 0, 5);
        arrives("the contacts the other way round", y, 0, 7, 5);
        arrives("the contacts the other way round, back", y, 7, 0, 5);
        x.pass(5);
        arrives("now", x, 0, 7, 5);
        x.pass(1);
        arrives("too late", x, 0, 7, -1);
    }

    @Says(in = "Terms", words = "it is the clock for the node itself")
    private static void arrivalAtItselfIsTheClock() {
        Delaypouch x = new Delaypouch();
        for (int n = 0; n < 8; n++) {
            arrives("at first", x, n, n, 0);
        }
        x.addContact(0, 1, 50, 60);
        x.pass(10);
        arrives("with a contact to come", x, 0, 0, 10);
        arrives("with no contact", x, 5, 5, 10);
        x.pass(10000);
        arrives("after all contacts", x, 1, 1, 10010);
    }

    @Says(in = "Terms", words = "and there is none if that cannot be")
    private static void noArrival() {
        Delaypouch x = new Delaypouch();
        arrives("no contacts", x, 0, 1, -1);
        x.addContact(0, 1, 20, 30);
        x.addContact(1, 2, 10, 19);
        x.addContact(3, 4, 0, 100000);
        arrives("the next one ends a second before", x, 0, 2, -1);
        arrives("the other way it is one", x, 2, 0, 20);
        arrives("others meet", x, 0, 4, -1);
        arrives("from others", x, 3, 0, -1);
    }

    @Says(in = "Terms", words = "An arrival is earlier than none.")
    private static void arrivalIsEarlierThanNone() {
        Delaypouch x = new Delaypouch();
        x.addContact(1, 7, 100000, 100000);
        x.send(0, 7, 0, 4, 5);
        x.meet(0, 1, 1);
        due("to one that has an arrival", 1, x.custodian(0));
        x.meet(0, 1, 1);
        due("not back to one that has none", 1, x.custodian(0));
        Delaypouch y = new Delaypouch();
        y.send(0, 7, 0, 4, 5);
        y.meet(0, 1, 1);
        due("none is not earlier than none", 0, y.custodian(0));
    }

    @Says(in = "Terms", words = "`NONE = -1`: There is no such node or second.")
    private static void noneIsMinusOne() throws ReflectiveOperationException {
        // By reflection, as javac writes the constant's value into the test that names it.
        due("NONE", -1, Delaypouch.class.getField("NONE").getInt(null));
        Delaypouch x = endsAtTen();
        due("no second", -1, x.deliveredAt(0));
        due("no arrival", -1, x.promised(0));
        x.pass(10);
        due("no node", -1, x.custodian(0));
    }

    // ---- Promises 1 and 2

    @Says(in = "Promise 1", words = "Creates a network without bundles and contacts.")
    private static void newObjectIsEmpty() {
        Delaypouch used = busy();
        Delaypouch x = new Delaypouch();
        due("bundles", 0, x.bundles());
        for (int n = 0; n < 8; n++) {
            due("held", 0, x.held(n));
            due("dropped", 0, x.dropped(n));
            due("refused", 0, x.refused(n));
            for (int d = 0; d < 8; d++) {
                arrives("an arrival", x, n, d, n == d ? 0 : -1);
            }
        }
        due("the first contact", 1, x.addContact(0, 1, 0, 0));
        due("the first bundle", 0, x.send(0, 1, 0, 1, 1));
        due("another object has its own", 4, used.bundles());
    }

    @Says(in = "Promise 2", words = {"Sends a bundle.",
        "It takes a place in the buffer of its source as a bundle that comes to it."})
    private static void sendTakesAPlace() {
        Delaypouch x = new Delaypouch();
        x.setBuffer(1, 1);
        x.send(0, 7, 0, 2, 100);
        x.meet(0, 1, 1);
        due("held at its source", 1, x.held(0));
        due("send makes its source drop one", 1, x.send(1, 7, 1, 2, 100));
        due("it has the place", "1", held(x, 1));
        due("dropped", 1, x.dropped(1));
        due("its destination's buffer is as it was", 0, x.held(7));
    }

    @Says(in = "Promise 2", words = {"`source`: 0 to 7", "`destination`: 0 to 7",
        "Throws `IndexOutOfBoundsException` if there is no such source or destination"})
    private static void sendNodes() {
        Delaypouch x = new Delaypouch();
        noNode("source", n -> x.send(n, 1, 0, 1, 1));
        noNode("destination", n -> x.send(1, n, 0, 1, 1));
        due("from 0 to 7", 0, x.send(0, 7, 0, 1, 1));
        due("from 7 to 0", 1, x.send(7, 0, 0, 1, 1));
    }

    @Says(in = "Promise 2", words = "Throws `IllegalArgumentException` if both are the same")
    private static void sendToItself() {
        Delaypouch x = new Delaypouch();
        for (int n = 0; n < 8; n++) {
            int node = n;
            fails("send from " + n + " to it", ARGUMENT, () -> x.send(node, node, 0, 1, 1));
        }
    }

    @Says(in = "Promise 2", words = {"`priority`: 0 to 2", "or another argument is out of range"})
    private static void sendPriority() {
        Delaypouch x = new Delaypouch();
        for (int no : new int[] {-1, 3, MIN, MAX}) {
            fails("priority " + no, ARGUMENT, () -> x.send(0, 1, no, 1, 1));
        }
        due("priority 0", 0, x.send(0, 1, 0, 1, 1));
        due("priority 2", 1, x.send(0, 1, 2, 1, 1));
        due("the higher is first", 1, x.heldAt(0, 0));
    }

    @Says(in = "Promise 2", words = {"`copies`: 1 to 64", "or another argument is out of range"})
    private static void sendCopies() {
        Delaypouch x = new Delaypouch();
        for (int no : new int[] {0, -1, 65, MIN, MAX}) {
            fails("copies " + no, ARGUMENT, () -> x.send(0, 1, 0, no, 1));
        }
        due("copies 1", 0, x.send(0, 1, 0, 1, 1));
        due("copies 64", 1, x.send(0, 1, 0, 64, 1));
        due("it has 64", 64, x.copies(0, 1));
    }

    @Says(in = "Promise 2",
            words = {"`lifetime`: 1 to 10000 seconds", "or another argument is out of range"})
    private static void sendLifetime() {
        Delaypouch x = new Delaypouch();
        for (int no : new int[] {0, -1, 10001, MIN, MAX}) {
            fails("lifetime " + no, ARGUMENT, () -> x.send(0, 1, 0, 1, no));
        }
        due("lifetime 1", 0, x.send(0, 1, 0, 1, 1));
        due("lifetime 10000", 1, x.send(0, 1, 0, 1, 10000));
        due("the first is over", 1, x.pass(1));
        due("the second is not", 0, x.pass(9998));
        due("now it is", 1, x.pass(1));
    }

    @Says(in = "Promise 2", words = "Returns its number.")
    private static void sendReturnsItsNumber() {
        Delaypouch x = fullOfCustody();
        fails("a refused one", STATE, () -> x.send(1, 6, 2, 1, 1));
        due("has no number", 4, x.send(2, 6, 2, 1, 1));
        x.pass(10000);
        due("those that are over keep theirs", 5, x.send(1, 6, 2, 1, 1));
    }

    @Says(in = "Promise 2",
            words = "Throws `IllegalStateException` if there are 40 bundles, or it is refused")
    private static void sendThrowsState() {
        Delaypouch x = new Delaypouch();
        for (int i = 0; i < 40; i++) {
            x.send(0, 1, 0, 1, 1);
            x.meet(0, 1, 1);
        }
        fails("a 41st, with room in the buffer", STATE, () -> x.send(0, 1, 0, 1, 1));
        Delaypouch y = fullOfCustody();
        fails("a refused one", STATE, () -> y.send(1, 0, 2, 1, 1));
        due("no refusal in a meeting", 0, y.refused(1));
    }

    // ---- Promises 3 to 6

    @Says(in = "Promise 3", words = {"`node`: 0 to 7", "`other`: 0 to 7",
        "Throws `IndexOutOfBoundsException` if there is no such node or other"})
    private static void meetNodes() {
        Delaypouch x = new Delaypouch();
        noNode("node", n -> x.meet(n, 1, 1));
        noNode("other", n -> x.meet(1, n, 1));
        due("0 and 7", 0, x.meet(0, 7, 1));
        due("7 and 0", 0, x.meet(7, 0, 1));
    }

    @Says(in = "Promise 3", words = "Throws `IllegalArgumentException` if both are the same")
    private static void meetItself() {
        Delaypouch x = new Delaypouch();
        for (int n = 0; n < 8; n++) {
            int node = n;
            fails(n + " meets itself", ARGUMENT, () -> x.meet(node, node, 1));
        }
    }

    @Says(in = "Promise 3", words = {"`most`: 0 to 20: how many transfers the meeting allows",
        "or most is out of range"})
    private static void meetMost() {
        Delaypouch x = new Delaypouch();
        x.send(0, 1, 0, 1, 1);
        for (int no : new int[] {-1, 21, MIN, MAX}) {
            fails("most " + no, ARGUMENT, () -> x.meet(0, 1, no));
        }
        due("most 0", 0, x.meet(0, 1, 0));
        due("most 20", 1, x.meet(0, 1, 20));
    }

    @Says(in = "Promise 3", words = "Returns how many transfers are made.")
    private static void meetReturnsTransfers() {
        for (int most = 15; most <= 17; most++) {
            Delaypouch x = new Delaypouch();
            x.setBuffer(0, 8);
            x.setBuffer(1, 8);
            for (int i = 0; i < 16; i++) {
                x.send(i % 2, 1 - i % 2, 0, 1, 1);
            }
            due("of sixteen", Math.min(most, 16), x.meet(0, 1, most));
            due("the others", 16 - Math.min(most, 16), x.meet(0, 1, 20));
            due("none is left", 0, x.meet(0, 1, 20));
        }
        Delaypouch y = fullOfCustody();
        y.send(0, 7, 0, 2, 1);
        y.send(0, 1, 0, 2, 1);
        due("a delivery, and one refused", 1, y.meet(0, 1, 20));
    }

    @Says(in = "Promise 4", words = {"Lets seconds pass.", "`seconds`: 1 to 10000",
        "Throws `IllegalArgumentException` if seconds is out of range"})
    private static void passSeconds() {
        Delaypouch x = new Delaypouch();
        for (int no : new int[] {0, -1, 10001, MIN, MAX}) {
            fails("pass " + no, ARGUMENT, () -> x.pass(no));
        }
        due("pass 1", 0, x.pass(1));
        due("pass 10000", 0, x.pass(10000));
        due("the clock", 10001, x.clock());
    }

    @Says(in = "Promise 4",
            words = "Returns how many bundles are over by that without having been delivered.")
    private static void passReturnsWhatIsOver() {
        Delaypouch x = new Delaypouch();
        x.send(0, 1, 0, 1, 5);
        x.send(2, 3, 0, 9, 6);
        x.send(4, 5, 0, 1, 6);
        x.send(6, 7, 0, 1, 6);
        x.send(7, 6, 0, 1, 8);
        x.meet(2, 1, 20);
        x.meet(2, 3, 1);
        due("a second before the first end", 0, x.pass(4));
        due("at the first end", 1, x.pass(1));
        due("two at once, and one that was delivered", 2, x.pass(1));
        due("no end now", 0, x.pass(1));
        due("far behind the last end", 1, x.pass(10000));
        due("none is counted twice", 0, x.pass(10000));
    }

    @Says(in = "Promise 5", words = {"`node`: 0 to 7",
        "Throws `IndexOutOfBoundsException` if there is no such node"})
    private static void setBufferNodes() {
        Delaypouch x = new Delaypouch();
        noNode("setBuffer", n -> x.setBuffer(n, 4));
        due("of 0", 4, x.setBuffer(0, 1));
        due("of 7", 4, x.setBuffer(7, 2));
        due("of 0 again", 1, x.setBuffer(0, 3));
        due("of 7 again", 2, x.setBuffer(7, 3));
        due("of 1 between", 4, x.setBuffer(1, 3));
    }

    @Says(in = "Promise 5", words = {"`places`: 1 to 8",
        "Throws `IllegalArgumentException` if places is out of range"})
    private static void setBufferPlaces() {
        Delaypouch x = new Delaypouch();
        for (int no : new int[] {0, -1, 9, MIN, MAX}) {
            fails("places " + no, ARGUMENT, () -> x.setBuffer(0, no));
        }
        x.setBuffer(0, 1);
        due("the one place", 0, x.send(0, 1, 0, 1, 9));
        fails("no second place", STATE, () -> x.send(0, 1, 0, 1, 9));
        x.setBuffer(0, 8);
        for (int i = 1; i < 8; i++) {
            due("one of eight places", i, x.send(0, 1, 0, 1, 9));
        }
        fails("no ninth place", STATE, () -> x.send(0, 1, 0, 1, 9));
        due("held", 8, x.held(0));
    }

    @Says(in = "Promise 5", words = "Returns the places before.")
    private static void setBufferReturnsThePlacesBefore() {
        Delaypouch x = new Delaypouch();
        int before = 4;
        for (int places : new int[] {1, 8, 8, 4, 5, 1}) {
            due("before " + places, before, x.setBuffer(3, places));
            before = places;
        }
    }

    @Says(in = "Promise 5",
            words = "Throws `IllegalStateException` if the node has more bundles than that")
    private static void setBufferTooSmall() {
        Delaypouch x = fullOfForeign();
        fails("three places for four bundles", STATE, () -> x.setBuffer(1, 3));
        due("four places for four bundles", 4, x.setBuffer(1, 4));
        x.pass(50);
        due("three places for three bundles", 4, x.setBuffer(1, 3));
        fails("two places for three bundles", STATE, () -> x.setBuffer(1, 2));
        due("a place for none", 4, x.setBuffer(5, 1));
    }

    @Says(in = "Promise 6", words = {"`node`: 0 to 7", "`other`: 0 to 7",
        "Throws `IndexOutOfBoundsException` if there is no such node or other"})
    private static void addContactNodes() {
        Delaypouch x = new Delaypouch();
        noNode("node", n -> x.addContact(n, 1, 0, 0));
        noNode("other", n -> x.addContact(1, n, 0, 0));
        due("0 and 7", 1, x.addContact(0, 7, 3, 3));
        due("7 and 0", 2, x.addContact(7, 0, 2, 2));
        arrives("from 0 to 7", x, 0, 7, 2);
    }

    @Says(in = "Promise 6", words = "Throws `IllegalArgumentException` if both are the same")
    private static void addContactToItself() {
        Delaypouch x = new Delaypouch();
        for (int n = 0; n < 8; n++) {
            int node = n;
            fails(n + " with itself", ARGUMENT, () -> x.addContact(node, node, 0, 0));
        }
    }

    @Says(in = "Promise 6",
            words = {"`first`: 0 to 100000: its first second", "or first or last is out of range"})
    private static void addContactFirst() {
        Delaypouch x = new Delaypouch();
        for (int no : new int[] {-1, 100001, MIN, MAX}) {
            fails("first " + no, ARGUMENT, () -> x.addContact(0, 1, no, Math.max(no, 100000)));
            fails("first and last " + no, ARGUMENT, () -> x.addContact(0, 1, no, no));
        }
        due("first 0", 1, x.addContact(0, 1, 0, 0));
        due("first 100000", 2, x.addContact(0, 2, 100000, 100000));
        arrives("at 0", x, 0, 1, 0);
        arrives("at 100000", x, 0, 2, 100000);
    }

    @Says(in = "Promise 6",
            words = {"`last`: first to 100000: its last second", "or first or last is out of range"})
    private static void addContactLast() {
        Delaypouch x = new Delaypouch();
        for (int no : new int[] {6, 0, -1, 100001, MIN, MAX}) {
            fails("last " + no, ARGUMENT, () -> x.addContact(0, 1, 7, no));
        }
        due("last as first", 1, x.addContact(0, 1, 7, 7));
        due("last 100000", 2, x.addContact(0, 2, 7, 100000));
        x.pass(7);
        arrives("at the last second", x, 0, 1, 7);
        x.pass(1);
        arrives("behind it", x, 0, 1, -1);
        arrives("before it", x, 0, 2, 8);
    }

    @Says(in = "Promise 6", words = {"Returns how many contacts the plan has then.",
        "Throws `IllegalStateException` if there are 30 contacts"})
    private static void addContactReturnsHowMany() {
        Delaypouch x = new Delaypouch();
        for (int i = 1; i <= 30; i++) {
            due("the same again and again", i, x.addContact(3, 4, 9, 9));
            x.pass(5);
        }
        for (int i = 0; i < 3; i++) {
            fails("one more", STATE, () -> x.addContact(3, 4, 9, 9));
        }
    }

    // ---- Promises 7 to 13

    @Says(in = "Promise 7", words = "Returns the clock.")
    private static void clockIsWhatPassed() {
        Delaypouch x = busy();
        due("just pass moves it", 2, x.clock());
        x.pass(1);
        due("by one", 3, x.clock());
        x.pass(10000);
        due("by the most", 10003, x.clock());
    }

    @Says(in = "Promise 8", words = "Returns how many bundles were sent.")
    private static void bundlesCountsAllThatWereSent() {
        Delaypouch x = new Delaypouch();
        due("none", 0, x.bundles());
        x.send(0, 1, 0, 8, 5);
        due("one", 1, x.bundles());
        x.meet(0, 1, 1);
        due("a delivered one counts", 1, x.bundles());
        x.send(0, 1, 0, 8, 5);
        x.meet(0, 2, 1);
        due("sprayed copies do not count", 2, x.bundles());
        x.pass(5);
        due("one that is over counts", 2, x.bundles());
        fails("one that is not sent", ARGUMENT, () -> x.send(0, 1, 0, 0, 5));
        due("it does not count", 2, x.bundles());
    }

    @Says(in = "Promise 9", words = {"Returns the end of a bundle.",
        "Throws `IndexOutOfBoundsException` if there is no such bundle"})
    private static void endOfNoBundle() {
        Delaypouch x = new Delaypouch();
        x.send(0, 1, 0, 1, 9);
        x.send(0, 1, 0, 1, 8);
        noBundle("endOf", x::endOf, new Delaypouch()::endOf);
        x.pass(10000);
        due("the end of the first, when it is over", 9, x.endOf(0));
        due("the end of the last, when it is over", 8, x.endOf(1));
    }

    @Says(in = "Promise 10", words = "Throws `IndexOutOfBoundsException` if there is no such bundle")
    private static void deliveredAtNoBundle() {
        Delaypouch x = new Delaypouch();
        x.send(0, 1, 0, 1, 9);
        x.send(0, 1, 0, 1, 8);
        noBundle("deliveredAt", x::deliveredAt, new Delaypouch()::deliveredAt);
    }

    @Says(in = "Promise 10", words = {"Returns the second at which a bundle was delivered.",
        "Returns the second; NONE if it is not delivered."})
    private static void deliveredAtSecond() {
        Delaypouch x = new Delaypouch();
        x.send(0, 1, 0, 1, 9);
        x.send(0, 2, 0, 8, 9);
        x.send(0, 3, 0, 1, 9);
        due("not yet", -1, x.deliveredAt(0));
        x.meet(0, 1, 1);
        due("at second 0", 0, x.deliveredAt(0));
        due("sprayed is not delivered", -1, x.deliveredAt(1));
        x.pass(8);
        x.meet(1, 2, 1);
        x.meet(0, 2, 1);
        due("in its last second", 8, x.deliveredAt(1));
        x.pass(1);
        x.meet(0, 3, 1);
        due("not in time", -1, x.deliveredAt(2));
        due("it stays", 0, x.deliveredAt(0));
    }

    @Says(in = "Promise 11", words = "Throws `IndexOutOfBoundsException` if there is no such bundle")
    private static void hopsNoBundle() {
        Delaypouch x = new Delaypouch();
        x.send(0, 1, 0, 1, 9);
        x.send(0, 1, 0, 1, 8);
        noBundle("hops", x::hops, new Delaypouch()::hops);
    }

    @Says(in = "Promise 11", words = {"one for each transfer, the delivery too",
        "Returns the transfers; 0 if it is not delivered."})
    private static void hopsFromOneToSeven() {
        for (int last = 0; last < 7; last++) {
            Delaypouch x = new Delaypouch();
            x.send(0, 7, 0, 64, 9);
            for (int n = 0; n < last; n++) {
                due("a spray", 1, x.meet(n, n + 1, 1));
            }
            due("before the delivery", 0, x.hops(0));
            due("the delivery", 1, x.meet(last, 7, 1));
            due("hops over " + last, last + 1, x.hops(0));
            x.pass(9);
            due("hops when it is over", last + 1, x.hops(0));
        }
    }

    /** Node 1 drops the copy that came over one transfer, and gets one that came over three. */
    @Says(in = "Promise 11", words = "on the way of the copy that was delivered")
    private static void hopsOfTheDeliveredCopy() {
        Delaypouch x = new Delaypouch();
        x.send(0, 7, 0, 64, 900);
        x.meet(0, 1, 1);
        x.meet(1, 2, 1);
        x.meet(0, 7, 1);
        due("straight from the source", 1, x.hops(0));
        Delaypouch y = new Delaypouch();
        y.setBuffer(1, 1);
        y.send(0, 7, 0, 64, 900);
        y.meet(0, 1, 1);
        y.send(1, 6, 1, 1, 5);
        y.meet(0, 2, 1);
        y.meet(2, 3, 1);
        y.pass(5);
        y.meet(3, 1, 1);
        y.meet(1, 7, 1);
        due("over the later way", 4, y.hops(0));
    }

    @Says(in = "Promise 12", words = "Throws `IndexOutOfBoundsException` if there is no such bundle")
    private static void custodianNoBundle() {
        Delaypouch x = new Delaypouch();
        x.send(0, 1, 0, 1, 9);
        x.send(0, 1, 0, 1, 8);
        noBundle("custodian", x::custodian, new Delaypouch()::custodian);
    }

    @Says(in = "Promise 12", words = "Returns the node; NONE if custody has ended.")
    private static void custodianOrNone() {
        Delaypouch x = new Delaypouch();
        x.send(0, 1, 0, 1, 9);
        x.send(7, 1, 0, 1, 9);
        due("node 0", 0, x.custodian(0));
        due("node 7", 7, x.custodian(1));
        x.meet(0, 1, 1);
        due("ended by delivery", -1, x.custodian(0));
        x.pass(9);
        due("ended by time", -1, x.custodian(1));
    }

    @Says(in = "Promise 13", words = "Throws `IndexOutOfBoundsException` if there is no such bundle")
    private static void holdersNoBundle() {
        Delaypouch x = new Delaypouch();
        x.send(0, 1, 0, 1, 9);
        x.send(0, 1, 0, 1, 8);
        noBundle("holders", x::holders, new Delaypouch()::holders);
    }

    @Says(in = "Promise 13", words = "Returns the bit n for the node n.")
    private static void holdersAsBits() {
        Delaypouch x = new Delaypouch();
        Delaypouch y = new Delaypouch();
        x.send(0, 7, 0, 64, 9);
        y.send(7, 0, 0, 64, 9);
        due("node 0", 1, x.holders(0));
        due("node 7", 128, y.holders(0));
        for (int n = 1; n < 7; n++) {
            x.meet(0, n, 20);
            y.meet(7, n, 20);
        }
        due("all but 7", 127, x.holders(0));
        due("all but 0", 254, y.holders(0));
        x.meet(0, 7, 20);
        due("without 0", 126, x.holders(0));
        x.pass(9);
        due("nobody", 0, x.holders(0));
    }

    // ---- Promises 14 to 19

    @Says(in = "Promise 14", words = {"`node`: 0 to 7",
        "Throws `IndexOutOfBoundsException` if there is no such node or bundle"})
    private static void copiesNoNodeOrBundle() {
        Delaypouch x = new Delaypouch();
        x.send(0, 1, 0, 1, 9);
        x.send(0, 1, 0, 1, 8);
        noBundle("copies", b -> x.copies(0, b), b -> new Delaypouch().copies(7, b));
        noNode("copies at", n -> x.copies(n, 0));
        noNode("copies of none at", n -> x.copies(n, 2));
    }

    @Says(in = "Promise 14", words = "Returns the copies; 0 if the node does not have it.")
    private static void copiesOrZero() {
        Delaypouch x = new Delaypouch();
        x.send(0, 7, 0, 64, 9);
        int left = 64;
        for (int n = 1; n < 7; n++) {
            due("not yet", 0, x.copies(n, 0));
            x.meet(0, n, 1);
            left -= left / 2;
            due("copies of " + n, left, x.copies(n, 0));
            due("copies left", left, x.copies(0, 0));
        }
        due("the last one", 1, left);
        due("its destination has none", 0, x.copies(7, 0));
        x.meet(3, 7, 1);
        due("the destination has none still", 0, x.copies(7, 0));
        due("the giver has none", 0, x.copies(3, 0));
        due("another has its own", 16, x.copies(2, 0));
    }

    @Says(in = "Promise 15", words = {"`node`: 0 to 7",
        "Throws `IndexOutOfBoundsException` if there is no such node or bundle"})
    private static void knowsNoNodeOrBundle() {
        Delaypouch x = new Delaypouch();
        x.send(0, 1, 0, 1, 9);
        x.send(0, 1, 0, 1, 8);
        noBundle("knows", b -> x.knows(0, b), b -> new Delaypouch().knows(7, b));
        noNode("knows at", n -> x.knows(n, 0));
        noNode("knows of none at", n -> x.knows(n, 2));
    }

    @Says(in = "Promise 15", words = "Returns true if it does.")
    private static void knowsOrNot() {
        Delaypouch x = endsAtTen();
        for (int n = 0; n < 8; n++) {
            due("at first " + n, false, x.knows(n, 0));
        }
        x.meet(0, 7, 0);
        due("met without a delivery", false, x.knows(7, 0));
        x.meet(0, 7, 1);
        for (int n = 0; n < 8; n++) {
            due("then " + n, n == 0 || n == 7, x.knows(n, 0));
        }
        x.send(2, 6, 0, 1, 1);
        x.pass(1);
        due("over is not delivered", false, x.knows(2, 1) || x.knows(6, 1));
    }

    @Says(in = "Promise 16", words = {"`node`: 0 to 7",
        "Throws `IndexOutOfBoundsException` if there is no such node"})
    private static void heldNoNode() {
        noNode("held", busy()::held);
        noNode("held, no bundles", new Delaypouch()::held);
    }

    @Says(in = "Promise 16", words = "Returns how many bundles a node has.")
    private static void heldFromNoneToEight() {
        Delaypouch x = new Delaypouch();
        x.setBuffer(6, 8);
        for (int i = 0; i < 8; i++) {
            due("held", i, x.held(6));
            x.send(6, 7, 0, 64, 9 - i);
        }
        due("all of eight", 8, x.held(6));
        due("at another", 0, x.held(7));
        x.pass(2);
        due("one is over", 7, x.held(6));
        x.meet(6, 7, 3);
        due("three are delivered", 4, x.held(6));
        due("their destination has none", 0, x.held(7));
    }

    @Says(in = "Promise 17", words = {"`node`: 0 to 7", "`place`: from 0",
        "Throws `IndexOutOfBoundsException` if there is no such node, or it does not have so many"})
    private static void heldAtNoNodeOrPlace() {
        Delaypouch x = fullOfCustody();
        noNode("heldAt", n -> x.heldAt(n, 0));
        noNode("heldAt, no such place", n -> x.heldAt(n, -1));
        for (int place : new int[] {-1, 4, 5, 8, 40, MIN, MAX}) {
            fails("heldAt place " + place, INDEX, () -> x.heldAt(1, place));
        }
        for (int place : new int[] {-1, 0, 1, MIN, MAX}) {
            fails("heldAt place " + place + " of none", INDEX, () -> x.heldAt(0, place));
        }
        due("the first place", 0, x.heldAt(1, 0));
        due("the last place", 3, x.heldAt(1, 3));
        x.pass(100);
        fails("heldAt when all are over", INDEX, () -> x.heldAt(1, 0));
    }

    @Says(in = "Promise 17", words = {
        "Returns the bundle at a place among those that a node has, in the order of bundles.",
        "Returns the number of the bundle."})
    private static void heldAtInOrder() {
        Delaypouch x = new Delaypouch();
        x.setBuffer(0, 8);
        x.send(0, 7, 0, 1, 5);
        x.send(1, 7, 2, 1, 5);
        x.send(0, 7, 2, 2, 9);
        x.send(0, 7, 1, 1, 9);
        x.send(0, 7, 2, 1, 8);
        x.send(0, 7, 1, 1, 9);
        due("by priority, end and number", "4 2 3 5 0", held(x, 0));
        due("another's", "1", held(x, 1));
        x.meet(0, 1, 1);
        due("another's in the order, too", "1 2", held(x, 1));
        x.pass(8);
        due("what is left moves up", "2 3 5", held(x, 0));
    }

    @Says(in = "Promise 18", words = {"`node`: 0 to 7",
        "Throws `IndexOutOfBoundsException` if there is no such node"})
    private static void droppedNoNode() {
        noNode("dropped", busy()::dropped);
    }

    @Says(in = "Promise 18",
            words = "Returns how many bundles a node dropped because its buffer was full.")
    private static void droppedByFullBuffer() {
        Delaypouch x = fullOfForeign();
        due("full alone drops none", 0, x.dropped(1));
        x.send(3, 6, 1, 2, 9);
        x.meet(3, 1, 20);
        due("one in a meeting", 1, x.dropped(1));
        x.send(1, 6, 1, 2, 100);
        due("one by a send", 2, x.dropped(1));
        x.send(4, 6, 0, 2, 9);
        x.meet(1, 4, 20);
        due("none by a refusal", 2, x.dropped(1));
        x.meet(0, 7, 1);
        due("a delivery", 1, x.meet(1, 7, 20));
        due("a receipt", "4 5", held(x, 1));
        due("none by delivery and receipt", 2, x.dropped(1));
        x.pass(1000);
        due("none by an end", 2, x.dropped(1));
        for (int n = 0; n < 8; n++) {
            due("none elsewhere", n == 1 ? 2 : 0, x.dropped(n));
        }
    }

    @Says(in = "Promise 19", words = {"`node`: 0 to 7",
        "Throws `IndexOutOfBoundsException` if there is no such node"})
    private static void refusedNoNode() {
        noNode("refused", busy()::refused);
    }

    @Says(in = "Promise 19", words = "Returns how many bundles a node refused in meetings.")
    private static void refusedInMeetings() {
        Delaypouch x = fullOfCustody();
        fails("a send that is refused", STATE, () -> x.send(1, 6, 2, 1, 9));
        due("it does not count", 0, x.refused(1));
        x.send(0, 7, 2, 2, 9);
        x.send(0, 7, 0, 2, 9);
        x.meet(0, 1, 20);
        due("both that came", 2, x.refused(1));
        x.meet(1, 0, 1);
        due("and both once more", 4, x.refused(1));
        for (int n = 0; n < 8; n++) {
            due("none elsewhere", n == 1 ? 4 : 0, x.refused(n));
        }
        due("none is dropped", 0, x.dropped(1));
    }

    // ---- Promises 20 to 22

    @Says(in = "Promise 20", words = {"`node`: 0 to 7", "`destination`: 0 to 7",
        "Throws `IndexOutOfBoundsException` if there is no such node or destination"})
    private static void arrivalNoNode() {
        Delaypouch x = busy();
        noNode("arrival from", n -> x.arrival(n, 0));
        noNode("arrival at", n -> x.arrival(0, n));
        noNode("arrival from and at", n -> x.arrival(n, n));
    }

    @Says(in = "Promise 20", words = "Returns the second; NONE if there is none.")
    private static void arrivalSecondOrNone() {
        Delaypouch x = new Delaypouch();
        due("none", -1, x.arrival(0, 7));
        due("second 0", 0, x.arrival(0, 0));
        x.addContact(7, 0, 100000, 100000);
        due("the last second", 100000, x.arrival(0, 7));
        due("from the other one", 100000, x.arrival(7, 0));
        x.addContact(7, 0, 0, 0);
        due("at second 0", 0, x.arrival(0, 7));
    }

    /** All nodes are on the one way, and each further contact of a node lures it elsewhere first. */
    @Says(in = "Promise 20",
            words = "Returns the arrival from a node at a destination, found by taking the "
            + "nodes by their arrivals.")
    private static void arrivalOverAllNodes() {
        Delaypouch x = new Delaypouch();
        longWay(x);
        due("over all nodes", 70, x.arrival(0, 7));
        due("to the one before", 60, x.arrival(0, 6));
        due("back by the later ones, over 6", 905, x.arrival(7, 0));
    }

    /** A chain from 0 to 7, told from its end, and straight contacts that are later. */
    private static void longWay(Delaypouch x) {
        for (int n = 7; n > 0; n--) {
            x.addContact(n - 1, n, 10 * n, 10 * n);
            x.addContact(n, 0, 900 + n - 1, 950);
        }
    }

    @Says(in = "Promise 21", words = {"`node`: 0 to 7", "`destination`: 0 to 7",
        "Throws `IndexOutOfBoundsException` if there is no such node or destination"})
    private static void arrivalByRoundsNoNode() {
        Delaypouch x = busy();
        noNode("arrivalByRounds from", n -> x.arrivalByRounds(n, 0));
        noNode("arrivalByRounds at", n -> x.arrivalByRounds(0, n));
        noNode("arrivalByRounds from and at", n -> x.arrivalByRounds(n, n));
    }

    @Says(in = "Promise 21", words = "Returns the second; NONE if there is none.")
    private static void arrivalByRoundsSecondOrNone() {
        Delaypouch x = new Delaypouch();
        due("none", -1, x.arrivalByRounds(0, 7));
        due("second 0", 0, x.arrivalByRounds(0, 0));
        x.addContact(7, 0, 100000, 100000);
        due("the last second", 100000, x.arrivalByRounds(0, 7));
        due("from the other one", 100000, x.arrivalByRounds(7, 0));
        x.addContact(7, 0, 0, 0);
        due("at second 0", 0, x.arrivalByRounds(0, 7));
    }

    @Says(in = "Promise 21",
            words = "Returns the same, found by going through all contacts again and again.")
    private static void arrivalByRoundsOverAllNodes() {
        Delaypouch x = new Delaypouch();
        longWay(x);
        due("over all nodes, seven rounds", 70, x.arrivalByRounds(0, 7));
        due("to the one before", 60, x.arrivalByRounds(0, 6));
        due("back by the later ones, over 6", 905, x.arrivalByRounds(7, 0));
        for (int n = 0; n < 8; n++) {
            for (int d = 0; d < 8; d++) {
                due("the same from " + n + " at " + d, x.arrival(n, d), x.arrivalByRounds(n, d));
            }
        }
    }

    @Says(in = "Promise 22", words = "Throws `IndexOutOfBoundsException` if there is no such bundle")
    private static void promisedNoBundle() {
        Delaypouch x = new Delaypouch();
        x.send(0, 1, 0, 1, 9);
        x.send(0, 1, 0, 1, 8);
        noBundle("promised", x::promised, new Delaypouch()::promised);
    }

    @Says(in = "Promise 22", words = "if that is before its end")
    private static void promisedBeforeItsEnd() {
        Delaypouch x = new Delaypouch();
        x.addContact(0, 7, 20, 30);
        x.send(0, 7, 0, 1, 21);
        x.send(0, 7, 0, 1, 20);
        x.send(0, 7, 0, 1, 19);
        due("a second before its end", 20, x.promised(0));
        due("at its end", -1, x.promised(1));
        due("behind its end", -1, x.promised(2));
        Delaypouch y = new Delaypouch();
        y.addContact(0, 7, 0, 0);
        y.send(0, 7, 0, 1, 1);
        due("at second 0", 0, y.promised(0));
    }

    @Says(in = "Promise 22", words = "NONE if there is none before its end")
    private static void promisedBehindTheLastSecond() {
        Delaypouch x = new Delaypouch();
        for (int i = 0; i < 10; i++) {
            x.pass(9999);
        }
        x.send(0, 7, 0, 1, 10000);
        x.send(1, 7, 0, 1, 11);
        x.send(1, 7, 0, 1, 10);
        due("no arrival, and an end behind all contacts", -1, x.promised(0));
        x.addContact(1, 7, 100000, 100000);
        due("another has one", -1, x.promised(0));
        due("in the last second of all", 100000, x.promised(1));
        due("at its end", -1, x.promised(2));
        x.pass(11);
        x.send(1, 7, 0, 1, 10000);
        due("too late for all contacts", -1, x.promised(3));
    }

    @Says(in = "Promise 22",
            words = "Returns the earliest arrival at its destination from all nodes that have a bundle")
    private static void promisedFromAllHolders() {
        Delaypouch x = new Delaypouch();
        x.addContact(0, 7, 40, 50);
        x.addContact(1, 7, 30, 50);
        x.addContact(3, 7, 10, 50);
        x.send(0, 7, 0, 8, 60);
        due("from the source", 40, x.promised(0));
        x.meet(0, 1, 1);
        due("from the later holder", 30, x.promised(0));
        x.meet(0, 2, 1);
        due("a holder without an arrival", 30, x.promised(0));
        x.pass(35);
        due("now", 35, x.promised(0));
        x.meet(3, 0, 1);
        due("from one more", 35, x.promised(0));
        x.pass(16);
        due("behind all contacts", -1, x.promised(0));
        Delaypouch y = endsAtTen();
        y.addContact(2, 7, 8, 9);
        due("the custodian", 0, y.custodian(0));
        due("from one who is not the custodian", 8, y.promised(0));
    }

    @Says(in = "Promise 22",
            words = "Returns the second; NONE if there is none before its end, or no node has it.")
    private static void promisedOfNobody() {
        Delaypouch x = new Delaypouch();
        x.send(0, 7, 0, 1, 10);
        due("no arrival", -1, x.promised(0));
        x.addContact(0, 7, 0, 100);
        due("an arrival now", 0, x.promised(0));
        x.meet(0, 7, 1);
        due("nobody has it", -1, x.promised(0));
        x.send(0, 7, 0, 1, 10);
        x.pass(10);
        due("it is over", -1, x.promised(1));
        Delaypouch y = deliveredByOne();
        y.addContact(2, 7, 5, 5);
        due("from one who has it still", 5, y.promised(0));
    }
}
