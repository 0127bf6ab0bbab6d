import java.io.ByteArrayOutputStream;
import java.io.OutputStream;
import java.net.URI;
import java.nio.charset.StandardCharsets;
import java.nio.file.Files;
import java.nio.file.Path;
import java.util.ArrayList;
import java.util.HashMap;
import java.util.List;
import java.util.Map;
import java.util.TreeSet;
import javax.tools.FileObject;
import javax.tools.ForwardingJavaFileManager;
import javax.tools.JavaCompiler;
import javax.tools.JavaFileManager;
import javax.tools.JavaFileObject;
import javax.tools.SimpleJavaFileObject;
import javax.tools.StandardJavaFileManager;
import javax.tools.ToolProvider;

/**
 * Shows that each test of BoundaryTest fails if its sentence is broken: the class is compiled with
 * one fault after the other, and the tests that are named with a fault must find it. A test that no
 * fault is named for is a failure, too. A fault is told by texts of the source and what stands there
 * instead; who changes such a text of the class changes it here, too.
 */
public final class MutantsTest {
    private static final Path CLASS = Path.of("src/main/java/Delaypouch.java");
    private static final Path TESTS = Path.of("tests/BoundaryTest.java");
    private static final JavaCompiler JAVAC = ToolProvider.getSystemJavaCompiler();

    private static String source;
    private static Map<String, byte[]> tests;
    private static final TreeSet<String> named = new TreeSet<>();
    private static int faults = 0;
    private static int wrong = 0;

    public static void main(String[] args) throws Exception {
        source = Files.readString(CLASS, StandardCharsets.UTF_8).replace("\r\n", "\n");
        String testSource = Files.readString(TESTS, StandardCharsets.UTF_8);
        tests = compile(Map.of("Delaypouch", source, "BoundaryTest", testSource));
        if (tests == null || !failures(tests).isEmpty()) {
            System.out.println("the tests fail without a fault");
            System.exit(1);
        }
        callsAndThrows();
        nodesBundlesAndOrder();
        buffers();
        custodyAndTime();
        learningAndDelivering();
        sprayingAndLimits();
        custodyAndPlan();
        sendAndMeet();
        passToAddContact();
        bundleAnswers();
        nodeAnswers();
        planAnswers();
        for (Object name : names(tests)) {
            if (!named.contains(name)) {
                fault("no fault is named for " + name);
            }
        }
        System.out.println(faults + " faults, " + wrong + " not found");
        if (wrong != 0) {
            System.exit(1);
        }
    }

    private static void fault(String text) {
        wrong++;
        System.out.println(text);
    }

    /** The tests by their names, with commas between; then each text and what stands there instead. */
    private static void breaks(String names, String... texts) throws Exception {
        faults++;
        String broken = source;
        for (int i = 0; i < texts.length; i += 2) {
            int at = broken.indexOf(texts[i]);
            if (at < 0 || broken.indexOf(texts[i], at + 1) >= 0) {
                fault("not just once in the source: " + texts[i]);
                return;
            }
            broken = broken.replace(texts[i], texts[i + 1]);
        }
        Map<String, byte[]> compiled = compile(Map.of("Delaypouch", broken));
        if (compiled == null) {
            fault("does not compile: " + texts[1]);
            return;
        }
        Map<String, byte[]> all = new HashMap<>(tests);
        all.keySet().removeIf(name -> name.startsWith("Delaypouch"));
        all.putAll(compiled);
        Map<?, ?> failed = failures(all);
        for (String name : names.split(", ")) {
            named.add(name);
            if (!failed.containsKey(name)) {
                fault(name + " does not find: " + texts[0] + " => " + texts[1]);
            }
        }
    }

    // ---- compiling and running

    private static final class Text extends SimpleJavaFileObject {
        private final String text;

        Text(String name, String text) {
            super(URI.create("string:///" + name + ".java"), Kind.SOURCE);
            this.text = text;
        }

        @Override
        public CharSequence getCharContent(boolean ignoreEncodingErrors) {
            return text;
        }
    }

    private static final class Bytes extends SimpleJavaFileObject {
        final ByteArrayOutputStream bytes = new ByteArrayOutputStream();

        Bytes(String name) {
            super(URI.create("bytes:///" + name + ".class"), Kind.CLASS);
        }

        @Override
        public OutputStream openOutputStream() {
            return bytes;
        }
    }

    private static final class InMemory extends ForwardingJavaFileManager<StandardJavaFileManager> {
        final Map<String, Bytes> written = new HashMap<>();

        InMemory(StandardJavaFileManager manager) {
            super(manager);
        }

        @Override
        public JavaFileObject getJavaFileForOutput(JavaFileManager.Location location, String name,
                JavaFileObject.Kind kind, FileObject sibling) {
            return written.computeIfAbsent(name, Bytes::new);
        }
    }

    /** The classes, or null if the texts do not compile. */
    private static Map<String, byte[]> compile(Map<String, String> texts) throws Exception {
        List<Text> units = new ArrayList<>();
        texts.forEach((name, text) -> units.add(new Text(name, text)));
        Map<String, byte[]> classes = new HashMap<>();
        try (InMemory memory = new InMemory(JAVAC.getStandardFileManager(null, null, null))) {
            List<String> options = List.of("--release", "17", "-proc:none", "-nowarn");
            if (!JAVAC.getTask(null, memory, null, options, null, units).call()) {
                return null;
            }
            memory.written.forEach((name, bytes) -> classes.put(name, bytes.bytes.toByteArray()));
        }
        return classes;
    }

    private static final class Loader extends ClassLoader {
        private final Map<String, byte[]> classes;

        Loader(Map<String, byte[]> classes) {
            // Not the loader of this class: that would find the class without a fault.
            super(ClassLoader.getPlatformClassLoader());
            this.classes = classes;
        }

        @Override
        protected Class<?> findClass(String name) throws ClassNotFoundException {
            byte[] bytes = classes.get(name);
            if (bytes == null) {
                throw new ClassNotFoundException(name);
            }
            return defineClass(name, bytes, 0, bytes.length);
        }
    }

    private static Map<?, ?> failures(Map<String, byte[]> classes) throws Exception {
        return (Map<?, ?>) ask(classes, "failures");
    }

    private static List<?> names(Map<String, byte[]> classes) throws Exception {
        return (List<?>) ask(classes, "names");
    }

    private static Object ask(Map<String, byte[]> classes, String question) throws Exception {
        return new Loader(classes).loadClass("BoundaryTest").getMethod(question).invoke(null);
    }

    // ---- the faults

    private static final String NOT_TWO_NODES = "        if (!isNode(node) || !isNode(other)) {";
    private static final String IN_MEET =
            "            throws IndexOutOfBoundsException, IllegalArgumentException {\n";
    private static final String IN_ADD =
            "addContact(int node, int other, int first, int last)\n"
            + "            throws IndexOutOfBoundsException, IllegalArgumentException, IllegalStateException {\n";

    private static void callsAndThrows() throws Exception {
        breaks("lastOf512Calls", "now += seconds;", "now = (now + seconds) % 5000000;");
        breaks("askedAtAnyTime", "                settled[node] = false;\n", "");
        breaks("askedAtAnyTime", "drops[node];", "drops[node]++;");
        breaks("sendThatThrowsChangesNothing", "if (sent.size() >= MOST_BUNDLES) {",
                "if (makeRoom(source, priority) && sent.size() >= MOST_BUNDLES) {");
        breaks("sendThatThrowsChangesNothing", "throw new IllegalStateException(\"refused\");",
                "drops[source]++; throw new IllegalStateException();");
        breaks("meetThatThrowsChangesNothing", "throw new IllegalArgumentException(\"not a meeting\");",
                "exchangeReceipts(node, other); throw new IllegalArgumentException();");
        breaks("passThatThrowsChangesNothing",
                "throw new IllegalArgumentException(\"seconds out of range\");",
                "now++; throw new IllegalArgumentException();");
        breaks("setBufferThatThrowsChangesNothing",
                "throw new IllegalStateException(\"the node has more bundles\");",
                "this.places[node] = places; throw new IllegalStateException();");
        breaks("addContactThatThrowsChangesNothing",
                "throw new IllegalStateException(\"no more contacts\");",
                "plan.size--; throw new IllegalStateException();");
        breaks("questionThatThrowsChangesNothing",
                "throw new IndexOutOfBoundsException(\"the node does not have so many\");",
                "drops[node]++; throw new IndexOutOfBoundsException();");
        breaks("sendThrowsTheFirstNamed", "        if (!isNode(source) || !isNode(destination)) {",
                "if (source == destination) { throw new IllegalArgumentException(); }\n"
                + "if (!isNode(source) || !isNode(destination)) {");
        breaks("sendThrowsTheFirstNamed", "        if (!isNode(source) || !isNode(destination)) {",
                "if (sent.size() >= MOST_BUNDLES) { throw new IllegalStateException(); }\n"
                + "if (!isNode(source) || !isNode(destination)) {");
        breaks("sendThrowsTheFirstNamed", "        if (source == destination || !isWithin(priority,",
                "if (sent.size() >= MOST_BUNDLES) { throw new IllegalStateException(); }\n"
                + "if (source == destination || !isWithin(priority,");
        breaks("sendThrowsTheFirstNamed", "        if (source == destination || !isWithin(priority,",
                "if (!makeRoom(source, priority)) { throw new IllegalStateException(); }\n"
                + "if (source == destination || !isWithin(priority,");
        breaks("meetThrowsTheFirstNamed", IN_MEET + NOT_TWO_NODES, IN_MEET
                + "if (node == other) { throw new IllegalArgumentException(); }\n" + NOT_TWO_NODES);
        breaks("meetThrowsTheFirstNamed", IN_MEET + NOT_TWO_NODES, IN_MEET
                + "if (most < 0 || most > 20) { throw new IllegalArgumentException(); }\n"
                + NOT_TWO_NODES);
        breaks("setBufferThrowsTheFirstNamed", "        if (!isWithin(places, 1, MOST_PLACES)) {",
                "if (countAt(node) > places) { throw new IllegalStateException(); }\n"
                + "if (!isWithin(places, 1, MOST_PLACES)) {");
        breaks("setBufferThrowsTheFirstNamed", "        if (!isNode(node)) {\n"
                + "            throw new IndexOutOfBoundsException(\"no such node\");\n        }\n"
                + "        if (!isWithin(places,",
                "if (!isWithin(places, 1, 8)) { throw new IllegalArgumentException(); }\n"
                + "if (!isNode(node)) { throw new IndexOutOfBoundsException(); }\nif (!isWithin(places,");
        breaks("addContactThrowsTheFirstNamed", "        if (node == other || !isWithin(first,",
                "if (plan.size >= MOST_CONTACTS) { throw new IllegalStateException(); }\n"
                + "if (node == other || !isWithin(first,");
        breaks("addContactThrowsTheFirstNamed", IN_ADD + NOT_TWO_NODES, IN_ADD
                + "if (node == other || first < 0) { throw new IllegalArgumentException(); }\n"
                + NOT_TWO_NODES);
        breaks("addContactThrowsTheFirstNamed", IN_ADD + NOT_TWO_NODES, IN_ADD
                + "if (plan.size >= MOST_CONTACTS) { throw new IllegalStateException(); }\n"
                + NOT_TWO_NODES);
    }

    private static void nodesBundlesAndOrder() throws Exception {
        breaks("nodesFrom0To7, sendNodes, meetNodes, addContactNodes",
                "return isWithin(node, 0, NODES - 1);",
                "return isWithin(node, 1, NODES - 1);");
        breaks("nodesFrom0To7, sendNodes, meetNodes, addContactNodes",
                "return isWithin(node, 0, NODES - 1);",
                "return isWithin(node, 0, NODES - 2);");
        breaks("clockCountsFrom0", "now = 0;", "now = 1;");
        breaks("clockCountsFrom0, clockIsWhatPassed", "now += seconds;", "now++;");
        breaks("fortyBundles", "MOST_BUNDLES = 40", "MOST_BUNDLES = 39");
        breaks("fortyBundles, sendThrowsState", "MOST_BUNDLES = 40", "MOST_BUNDLES = 41");
        breaks("fortyBundles", "if (sent.size() >= MOST_BUNDLES) {",
                "if (sent.size() >= MOST_BUNDLES && countAt(source) > 0) {");
        breaks("endIsSecondAndLifetimeTogether", "now + lifetime)", "lifetime)");
        breaks("endIsSecondAndLifetimeTogether", "now + lifetime)", "now + lifetime - 1)");
        breaks("orderByFallingPriority", "return priority > that.priority;",
                "return priority < that.priority;");
        breaks("orderByFallingPriority", "if (priority != that.priority) {", "if (false) {");
        breaks("orderByRisingEnd", "return end < that.end;", "return end > that.end;");
        breaks("orderByRisingEnd", "if (end != that.end) {", "if (false) {");
        breaks("orderByRisingNumber", "return number < that.number;", "return number > that.number;");
    }

    private static final String IS_FOREIGN = "if (bundle.isAt(node) && bundle.custodian != node) {";
    private static final String DROPS_NONE = "if (last == null || last.priority >= priority) {";

    private static void buffers() throws Exception {
        breaks("fourPlacesAtFirst", "FIRST_PLACES = 4", "FIRST_PLACES = 3");
        breaks("fourPlacesAtFirst", "FIRST_PLACES = 4", "FIRST_PLACES = 5");
        breaks("fourPlacesAtFirst",
                "for (int node = 0; node < NODES; node++) {\n            places[node]",
                "for (int node = 0; node < NODES - 1; node++) {\n            places[node]");
        breaks("onePlaceWhateverCopies", "                count++;",
                "count += sent.get(i).copiesAt[node] > 32 ? 2 : 1;");
        breaks("oneCopyAtLeast, oneCopyIsNotSprayed", "copiesAt[from] >= 2 &&", "copiesAt[from] >= 1 &&");
        breaks("oneCopyAtLeast", "copiesAt[from] -= half;", "copiesAt[from] -= half + 1;");
        breaks("onePlaceLeftIsNotFull", "countAt(node) < places[node]", "countAt(node) + 1 < places[node]");
        breaks("fullSendDropsTheLastInOrder, fullMeetingDropsTheLastInOrder", "last = bundle;",
                "return bundle;");
        breaks("fullSendDropsTheLastInOrder, fullMeetingDropsTheLastInOrder",
                "Bundle bundle = ordered.get(i);\n            " + IS_FOREIGN,
                "Bundle bundle = sent.get(i);\n            " + IS_FOREIGN);
        breaks("fullKeepsTheCustodians, custodianAlwaysHasIt, fullOfCustodyRefuses", IS_FOREIGN,
                "if (bundle.isAt(node)) {");
        breaks("fullRefusesTheSamePriority", DROPS_NONE, "if (last == null || last.priority > priority) {");
        breaks("fullRefusesALowerPriority", DROPS_NONE, "if (last == null || last.priority == priority) {");
        breaks("fullOfCustodyRefuses", DROPS_NONE,
                "if (last == null) { return true; } if (last.priority >= priority) {");
        breaks("droppedWithAllCopies", "last.leave(node);", "last.put(node, last.copiesAt[node] / 2, 0);");
        breaks("droppedWithAllCopies", "last.leave(node);", "last.vanish();");
    }

    private static final String BY_TIME = "                leave(node);\n            }\n";

    private static void custodyAndTime() throws Exception {
        breaks("sourceIsCustodianAtFirst", "bundle.custodian = source;", "bundle.custodian = destination;");
        breaks("custodyEndsByLearning", "if (custodian == node) {", "if (false) {");
        breaks("custodyEndsByLearning", "if (custodian == node) {", "if (true) {");
        breaks("custodyEndsByTime", BY_TIME + "            custodian = NONE;", BY_TIME);
        breaks("custodyEndsByTime", "bundle.vanish();", "bundle.vanish(); bundle.custodian = 0;");
        breaks("custodyEndsByTime, aSecondBeforeTheEnd", "bundle.end <= now", "bundle.end <= now + 1");
        breaks("custodianAlwaysHasIt", IS_FOREIGN, "if (bundle.isAt(node) && bundle.hopsAt[node] > 0) {");
        breaks("atTheEnd, custodyEndsByTime", "bundle.end <= now", "bundle.end < now");
        breaks("atTheEnd", BY_TIME, "if (node != 1) { leave(node); }\n            }\n");
        breaks("knownStaysKnown", BY_TIME, "leave(node); knownAt[node] = false;\n            }\n");
        breaks("knownStaysKnown", "bundle.vanish();", "bundle.vanish(); bundle.deliveryHops = 0;");
        breaks("knownStaysKnown", "if (bundle.knownAt[node] || bundle.knownAt[other]) {",
                "if (bundle.end > now && (bundle.knownAt[node] || bundle.knownAt[other])) {");
        breaks("learningDropsIt", "            knownAt[node] = true;\n            leave(node);",
                "            knownAt[node] = true;");
        breaks("learningDropsIt", "if (custodian == node) {", "if (false) {");
    }

    private static final String BOTH_KNOW = "bundle.knownAt[node] || bundle.knownAt[other]";
    private static final String RECEIPTS = "        exchangeReceipts(node, other);\n";

    private static void learningAndDelivering() throws Exception {
        breaks("eachLearnsAll", BOTH_KNOW, "bundle.knownAt[node]");
        breaks("eachLearnsAll", BOTH_KNOW, "bundle.knownAt[other]");
        breaks("eachLearnsAll", "                bundle.learn(node);\n", "");
        breaks("eachLearnsAll", "                bundle.learn(other);\n",
                "bundle.learn(other); if (i == 38) { return; }\n");
        breaks("learningComesFirst", RECEIPTS, "",
                "        moveCustody(node, other);\n", "moveCustody(node, other);\n" + RECEIPTS);
        breaks("toBeDelivered", "return isAt(from) && destination == to;",
                "return copiesAt[from] >= 2 && destination == to;");
        breaks("toBeDelivered", "return isAt(from) && destination == to;",
                "return copiesAt[from] == 1 && destination == to;");
        breaks("toBeDelivered", "} else if (bundle.canDeliver(other, node)) {", "} else if (false) {");
        breaks("toBeDelivered", "if (bundle.canDeliver(node, other)) {",
                "if (bundle.isAt(node) && bundle.number == 4) {");
        breaks("fullDestinationGetsIt", "if (bundle.canDeliver(node, other)) {",
                "if (bundle.canDeliver(node, other) && countAt(other) < places[other]) {");
        breaks("deliveriesFirstAndInOrder, noMoreThanItAllows",
                "        int delivered = deliverSome(node, other, most);\n"
                + "        int sprayed = spraySome(node, other, most - delivered);",
                "int sprayed = spraySome(node, other, most);\n"
                + "int delivered = deliverSome(node, other, most - sprayed);");
        breaks("deliveriesFirstAndInOrder",
                "Bundle bundle = ordered.get(i);\n            if (bundle.canDeliver(",
                "Bundle bundle = sent.get(i);\n            if (bundle.canDeliver(");
        breaks("deliveryIsATransfer", "            learn(from);\n", "");
        breaks("deliveryIsATransfer", "            learn(destination);\n", "");
        breaks("deliveryIsATransfer", "            learn(destination);\n",
                "for (int n = 0; n < NODES; n++) { if (isAt(n)) { learn(n); } } learn(destination);\n");
        breaks("deliveryIsATransfer", "bundle.deliver(other, now);\n                made++;",
                "bundle.deliver(other, now);");
        breaks("deliveryFreesAPlace", "            learn(from);\n", "knownAt[from] = true;\n");
    }

    private static final String GIVES = "if (bundle.giver == node && spray(bundle, node, other)) {";
    private static final String TAKES = "} else if (bundle.giver == other && spray(bundle, other, node)) {";
    private static final String SPRAY_LOOP =
            "made < most; i++) {\n            Bundle bundle = ordered.get(i);\n            ";

    private static void sprayingAndLimits() throws Exception {
        breaks("oneCopyIsNotSprayed", "copiesAt[from] >= 2 &&", "copiesAt[from] >= 3 &&");
        breaks("notSprayedToOneWhoHasIt", "copiesAt[from] >= 2 && !isAt(to);", "copiesAt[from] >= 2;");
        breaks("notSprayedToItsDestination",
                "return destination != from && destination != to && ", "return ",
                "deliverSome(node, other, most);", "spraySome(node, other, most);",
                "spraySome(node, other, most - delivered);", "deliverSome(node, other, most - delivered);");
        breaks("notSprayedToItsDestination", "            learn(from);\n", "copiesAt[from]--;\n");
        breaks("foundOutBeforeItIsDone", GIVES, GIVES.replace("bundle.giver == node",
                "bundle.canSpray(node, other)"), TAKES, TAKES.replace("bundle.giver == other",
                "bundle.canSpray(other, node)"));
        breaks("noMoreThanItAllows, behindTheLimitNothingIsTried", "most - delivered", "most");
        breaks("noMoreThanItAllows", SPRAY_LOOP + GIVES, SPRAY_LOOP.replace("<", "<=") + GIVES);
        breaks("noMoreThanItAllows", SPRAY_LOOP + "if (bundle.canDeliver(node",
                SPRAY_LOOP.replace("<", "<=") + "if (bundle.canDeliver(node");
        breaks("eachMeetingCountsAnew", "    private int now;", "private int made; private int now;",
                "        int delivered = ", "most = Math.max(0, most - made); int delivered = ",
                "return delivered + sprayed;", "made += delivered + sprayed; return delivered + sprayed;");
        breaks("behindTheLimitNothingIsTried", SPRAY_LOOP + GIVES,
                "true; i++) {\n Bundle bundle = ordered.get(i);\n if (made >= most) {\n"
                + "if (bundle.giver == node && !makeRoom(other, bundle.priority)) { refusals[other]++; }\n"
                + "} else " + GIVES);
        breaks("spraysInOrder", "Bundle bundle = ordered.get(i);\n            " + GIVES,
                "Bundle bundle = sent.get(i);\n            " + GIVES);
        breaks("spraysInOrder", TAKES, "} else if (false) {");
        breaks("halfRoundedDown", "copiesAt[from] / 2", "(copiesAt[from] + 1) / 2");
        breaks("halfRoundedDown", "            copiesAt[from] -= half;\n", "");
        breaks("halfRoundedDown", "bundle.halve(giver, taker);\n        return true;",
                "bundle.halve(giver, taker);\n        return false;");
        breaks("refusedIsNoTransfer", "refusals[taker]++;\n            return false;",
                "refusals[taker]++;\n            return true;");
        breaks("refusedIsNoTransfer", "refusals[taker]++;", "refusals[taker]++; bundle.copiesAt[giver]--;");
        breaks("droppedMeanwhileIsNoTransfer", "if (!bundle.isAt(giver)) {\n            return false;",
                "if (!bundle.isAt(giver)) {\n            return true;");
        breaks("droppedMeanwhileIsNoTransfer", "if (!bundle.isAt(giver)) {\n            return false;",
                "if (!bundle.isAt(giver)) {\n            refusals[taker]++; return false;");
    }

    private static void custodyAndPlan() throws Exception {
        breaks("custodyMovesToTheEarlier", "there < here", "there <= here");
        breaks("custodyMovesToTheEarlier", "there < here", "there < here - 1");
        breaks("custodyOfWhatBothHaveThen", "bundle.isAt(node) && bundle.isAt(other)", "true");
        breaks("custodyOfWhatBothHaveThen", "        moveCustody(node, other);\n", "",
                "        findSprays(node, other);\n", "findSprays(node, other); moveCustody(node, other);\n");
        breaks("custodyOfEachBundle", "moveCustodyIfNearer(bundle, node, other);",
                "moveCustodyIfNearer(bundle, node, other); return;");
        breaks("custodyOfEachBundle", "moveCustodyIfNearer(bundle, other, node);", "return;");
        breaks("custodyOfAThirdStays", "} else if (bundle.custodian == other) {", "} else {");
        breaks("custodyOfAThirdStays", "if (bundle.custodian == node) {", "if (bundle.custodian != other) {");
        breaks("custodyOfAThirdStays", "        moveCustody(node, other);\n",
                "if (delivered + sprayed > 0) { moveCustody(node, other); }\n");
        breaks("contactFromFirstToLast", "reached[from] > lasts[contact]", "reached[from] >= lasts[contact]");
        breaks("contactFromFirstToLast", "reached[from] > lasts[contact]", "reached[from] > lasts[contact] + 1");
        breaks("contactFromFirstToLast", "firsts[size] = first;", "firsts[size] = first + 1;");
        breaks("contactFromFirstToLast", " || carry(i, others[i], nodes[i])", "");
        breaks("contactFromFirstToLast", "} else if (others[i] == from) {", "} else if (false) {");
        breaks("contactOfOneSecond", "!isWithin(last, first, LAST_SECOND)",
                "!isWithin(last, first + 1, LAST_SECOND)");
        breaks("contactOfOneSecond", "LAST_SECOND = 100000", "LAST_SECOND = 99999");
        breaks("thirtyContacts", "MOST_CONTACTS = 30", "MOST_CONTACTS = 29");
        breaks("thirtyContacts, addContactReturnsHowMany", "MOST_CONTACTS = 30", "MOST_CONTACTS = 31");
        breaks("thirtyContacts", "if (size >= MOST_CONTACTS) {",
                "if (size >= MOST_CONTACTS && lasts[0] > 500) {");
        breaks("arrivalNotBeforeTheClock", "Math.max(reached[from], firsts[contact])", "firsts[contact]");
        breaks("arrivalByContactsAlone", RECEIPTS, RECEIPTS + "plan.add(node, other, now, now);\n");
        breaks("arrivalByContactsAlone", "reached[from] > lasts[contact]", "reached[from] >= lasts[contact]");
        breaks("arrivalByContactsAlone", "reached[from] > lasts[contact]", "false");
        breaks("arrivalIsTheEarliest", "if (second >= reached[to]) {", "if (reached[to] != NEVER) {");
        breaks("meetingsTakeNoTime", "reached[to] = second;", "reached[to] = second + 1;");
        breaks("arrivalAtItselfIsTheClock", "reached[from] = now;", "reached[from] = 0;");
        breaks("noArrival", "return second == NEVER ? NONE : second;", "return second;");
        breaks("noArrival", "reached[from] > lasts[contact]", "reached[from] > lasts[contact] + 1");
        breaks("arrivalIsEarlierThanNone", "there < here", "there < here && here != NEVER");
        breaks("arrivalIsEarlierThanNone", "there < here", "there < here || there == NEVER");
        breaks("noneIsMinusOne", "NONE = -1", "NONE = -2");
        breaks("newObjectIsEmpty", "size = 0;", "size = 1;");
        breaks("newObjectIsEmpty", "now = 0;", "now = 1;");
    }

    private static void sendAndMeet() throws Exception {
        breaks("sendTakesAPlace", "if (!makeRoom(source, priority)) {",
                "if (countAt(source) >= places[source]) {");
        breaks("sendTakesAPlace", "bundle.put(source, copies, 0);", "bundle.put(destination, copies, 0);");
        breaks("sendNodes", "if (!isNode(source) || !isNode(destination)) {", "if (!isNode(source)) {");
        breaks("sendNodes", "if (!isNode(source) || !isNode(destination)) {", "if (!isNode(destination)) {");
        breaks("sendToItself", "if (source == destination || !isWithin(", "if (!isWithin(");
        breaks("sendPriority", "HIGHEST_PRIORITY = 2", "HIGHEST_PRIORITY = 1");
        breaks("sendPriority", "HIGHEST_PRIORITY = 2", "HIGHEST_PRIORITY = 3");
        breaks("sendPriority", "isWithin(priority, 0,", "isWithin(priority, 1,");
        breaks("sendPriority", "isWithin(priority, 0,", "isWithin(priority, -1,");
        breaks("sendCopies", "MOST_COPIES = 64", "MOST_COPIES = 63");
        breaks("sendCopies", "MOST_COPIES = 64", "MOST_COPIES = 65");
        breaks("sendCopies", "isWithin(copies, 1,", "isWithin(copies, 0,");
        breaks("sendCopies", "isWithin(copies, 1,", "isWithin(copies, 2,");
        breaks("sendLifetime", "isWithin(lifetime, 1, MOST_SECONDS)", "isWithin(lifetime, 0, MOST_SECONDS)");
        breaks("sendLifetime", "isWithin(lifetime, 1, MOST_SECONDS)", "isWithin(lifetime, 2, MOST_SECONDS)");
        breaks("sendLifetime", "isWithin(lifetime, 1, MOST_SECONDS)", "isWithin(lifetime, 1, 9999)");
        breaks("sendLifetime", "isWithin(lifetime, 1, MOST_SECONDS)", "isWithin(lifetime, 1, 10001)");
        breaks("sendReturnsItsNumber", "return bundle.number;\n    }", "return sent.size();\n    }");
        breaks("sendThrowsState", "throw new IllegalStateException(\"no more bundles\");",
                "throw new IllegalArgumentException();");
        breaks("sendThrowsState", "throw new IllegalStateException(\"refused\");",
                "throw new IllegalArgumentException();");
        breaks("sendThrowsState, refusedInMeetings", "throw new IllegalStateException(\"refused\");",
                "refusals[source]++; throw new IllegalStateException();");
        breaks("meetNodes", IN_MEET + NOT_TWO_NODES, IN_MEET + "if (!isNode(node)) {");
        breaks("meetNodes", IN_MEET + NOT_TWO_NODES, IN_MEET + "if (!isNode(other)) {");
        breaks("meetItself", "if (node == other || !isWithin(most,", "if (!isWithin(most,");
        breaks("meetMost", "MOST_TRANSFERS = 20", "MOST_TRANSFERS = 19");
        breaks("meetMost", "MOST_TRANSFERS = 20", "MOST_TRANSFERS = 21");
        breaks("meetMost", "isWithin(most, 0,", "isWithin(most, 1,");
        breaks("meetMost", "isWithin(most, 0,", "isWithin(most, -1,");
        breaks("meetReturnsTransfers", "return delivered + sprayed;", "return sprayed;");
        breaks("meetReturnsTransfers", "deliverSome(node, other, most)",
                "deliverSome(node, other, Math.min(most, 15))");
        breaks("meetReturnsTransfers", "refusals[taker]++;\n            return false;",
                "refusals[taker]++;\n            return true;");
    }

    private static void passToAddContact() throws Exception {
        breaks("passSeconds", "isWithin(seconds, 1, MOST_SECONDS)", "isWithin(seconds, 0, MOST_SECONDS)");
        breaks("passSeconds", "isWithin(seconds, 1, MOST_SECONDS)", "isWithin(seconds, 2, MOST_SECONDS)");
        breaks("passSeconds", "isWithin(seconds, 1, MOST_SECONDS)", "isWithin(seconds, 1, 9999)");
        breaks("passSeconds", "isWithin(seconds, 1, MOST_SECONDS)", "isWithin(seconds, 1, 10001)");
        breaks("passReturnsWhatIsOver", "if (bundle.deliverySecond == NONE) {", "if (true) {");
        breaks("passReturnsWhatIsOver", "bundle.end > before && ", "");
        breaks("passReturnsWhatIsOver", "bundle.end > before &&", "bundle.end >= before &&");
        breaks("passReturnsWhatIsOver", "bundle.end <= now", "bundle.end < now");
        breaks("passReturnsWhatIsOver", "                    lost++;", "                    lost = 1;");
        breaks("setBufferNodes", "        if (!isNode(node)) {\n"
                + "            throw new IndexOutOfBoundsException(\"no such node\");\n        }\n"
                + "        if (!isWithin(places,", "        if (!isWithin(places,");
        breaks("setBufferPlaces", "MOST_PLACES = 8", "MOST_PLACES = 7");
        breaks("setBufferPlaces", "MOST_PLACES = 8", "MOST_PLACES = 9");
        breaks("setBufferPlaces", "isWithin(places, 1,", "isWithin(places, 0,");
        breaks("setBufferPlaces", "isWithin(places, 1,", "isWithin(places, 2,");
        breaks("setBufferReturnsThePlacesBefore", "return before;", "return places;");
        breaks("setBufferTooSmall", "countAt(node) > places)", "countAt(node) >= places)");
        breaks("setBufferTooSmall", "countAt(node) > places)", "countAt(node) > places + 1)");
        breaks("addContactNodes", IN_ADD + NOT_TWO_NODES, IN_ADD + "if (!isNode(node)) {");
        breaks("addContactNodes", IN_ADD + NOT_TWO_NODES, IN_ADD + "if (!isNode(other)) {");
        breaks("addContactToItself", "if (node == other || !isWithin(first,", "if (!isWithin(first,");
        breaks("addContactFirst", "isWithin(first, 0,", "isWithin(first, 1,");
        breaks("addContactFirst", "isWithin(first, 0,", "isWithin(first, -1,");
        breaks("addContactFirst", "LAST_SECOND = 100000", "LAST_SECOND = 99999");
        breaks("addContactFirst, addContactLast", "LAST_SECOND = 100000", "LAST_SECOND = 100001");
        breaks("addContactLast", "isWithin(last, first, LAST_SECOND)", "isWithin(last, first - 1, LAST_SECOND)");
        breaks("addContactLast", "isWithin(last, first, LAST_SECOND)", "isWithin(last, first + 1, LAST_SECOND)");
        breaks("addContactLast", "isWithin(last, first, LAST_SECOND)", "isWithin(last, first, 100001)");
        breaks("addContactLast", "isWithin(last, first, LAST_SECOND)", "isWithin(last, first, 99999)");
        breaks("addContactReturnsHowMany", "return plan.size;", "return plan.size - 1;");
    }

    private static void bundleAnswers() throws Exception {
        breaks("clockIsWhatPassed", RECEIPTS, RECEIPTS + "now++;\n");
        breaks("bundlesCountsAllThatWereSent", "public int bundles() {\n        return sent.size();",
                "public int bundles() { int n = 0; for (int i = 0; i < sent.size(); i++) {"
                + " n += sent.get(i).end > now ? 1 : 0; } return n;");
        breaks("bundlesCountsAllThatWereSent", "public int bundles() {\n        return sent.size();",
                "public int bundles() { int n = 0; for (int i = 0; i < sent.size(); i++) {"
                + " n += sent.get(i).deliverySecond < 0 ? 1 : 0; } return n;");
        String[] calls = {"endOf", "deliveredAt", "hops", "custodian", "holders", "promised"};
        for (String call : calls) {
            String head = "public int " + call + "(int bundle) throws IndexOutOfBoundsException {\n";
            breaks(call + "NoBundle", head, head + "if (bundle == -1) { return 0; }\n");
            breaks(call + "NoBundle", head, head + "if (bundle == sent.size()) { return 0; }\n");
        }
        breaks("endOfNoBundle, deliveredAtNoBundle, hopsNoBundle, custodianNoBundle, holdersNoBundle, "
                + "promisedNoBundle, copiesNoNodeOrBundle, knowsNoNodeOrBundle",
                "if (bundle < 0 || bundle >= sent.size()) {", "if (bundle < 0) {");
        breaks("deliveredAtSecond", "deliverySecond = second;", "deliverySecond = second + 1;");
        breaks("deliveredAtSecond", "return numbered(bundle).deliverySecond;",
                "return numbered(bundle).deliverySecond == 0 ? NONE : numbered(bundle).deliverySecond;");
        breaks("hopsFromOneToSeven", "deliveryHops = hopsAt[from] + 1;", "deliveryHops = hopsAt[from];");
        breaks("hopsFromOneToSeven", "put(to, half, hopsAt[from] + 1);", "put(to, half, 1);");
        breaks("hopsFromOneToSeven", "return numbered(bundle).deliveryHops;",
                "return Math.max(1, numbered(bundle).deliveryHops);");
        breaks("hopsOfTheDeliveredCopy", "            hopsAt[node] = hops;",
                "if (hopsAt[node] == 0) { hopsAt[node] = hops; }");
        breaks("hopsOfTheDeliveredCopy", "put(to, half, hopsAt[from] + 1);",
                "hopsAt[from]++; put(to, half, hopsAt[from]);");
        breaks("custodianOrNone", "return numbered(bundle).custodian;",
                "return Math.max(0, numbered(bundle).custodian);");
        breaks("custodianOrNone", "return numbered(bundle).custodian;",
                "return numbered(bundle).custodian == 0 ? NONE : numbered(bundle).custodian;");
        breaks("holdersAsBits", "bits |= 1 << node;", "bits |= 128 >> node;");
        breaks("holdersAsBits", "bits |= 1 << node;", "bits |= 1 << Math.min(node, 6);");
        breaks("holdersAsBits", "bits |= 1 << node;", "bits |= node;");
    }

    private static void nodeAnswers() throws Exception {
        breaks("copiesOrZero", "return numbered(bundle).copiesAt[node];",
                "return Math.max(1, numbered(bundle).copiesAt[node]);");
        breaks("copiesOrZero", "            learn(destination);\n",
                "learn(destination); copiesAt[destination] = 1;\n");
        breaks("knowsOrNot", "return numbered(bundle).knownAt[node];",
                "return numbered(bundle).deliverySecond != NONE;");
        breaks("knowsOrNot", "bundle.vanish();", "bundle.vanish(); bundle.learn(bundle.destination);");
        checksNode("copiesNoNodeOrBundle", "public int copies(int node, int bundle)");
        checksNode("knowsNoNodeOrBundle", "public boolean knows(int node, int bundle)");
        checksNode("heldNoNode", "public int held(int node)");
        checksNode("heldAtNoNodeOrPlace", "public int heldAt(int node, int place)");
        checksNode("droppedNoNode", "public int dropped(int node)");
        checksNode("refusedNoNode", "public int refused(int node)");
        breaks("heldFromNoneToEight", "return count;", "return Math.min(count, 7);");
        breaks("heldFromNoneToEight", "                count++;", "count += sent.get(i).copiesAt[node];");
        breaks("heldAtNoNodeOrPlace", "if (passed == place) {", "if (passed >= place) {");
        breaks("heldAtNoNodeOrPlace, heldAtInOrder", "int passed = 0;", "int passed = 1;");
        breaks("heldAtInOrder", "int passed = 0;\n        for (int i = 0; i < ordered.size(); i++) {\n"
                + "            Bundle bundle = ordered.get(i);", "int passed = 0;\n"
                + "for (int i = 0; i < ordered.size(); i++) {\nBundle bundle = sent.get(i);");
        breaks("heldAtInOrder", "return bundle.number;\n                }", "return i;\n                }");
        breaks("droppedByFullBuffer", "        drops[node]++;\n", "");
        breaks("droppedByFullBuffer", "bundle.learn(node);",
                "drops[node] += bundle.isAt(node) ? 1 : 0; bundle.learn(node);");
        breaks("droppedByFullBuffer", "bundle.vanish();",
                "for (int n = 0; n < NODES; n++) { drops[n] += bundle.isAt(n) ? 1 : 0; } bundle.vanish();");
        breaks("droppedByFullBuffer", "refusals[taker]++;", "refusals[taker]++; drops[taker]++;");
        breaks("refusedInMeetings", "refusals[taker]++;", "refusals[giver]++;");
        breaks("refusedInMeetings", "refusals[taker]++;", "refusals[taker] = 1;");
    }

    private static void checksNode(String test, String head) throws Exception {
        String whole = head + " throws IndexOutOfBoundsException {\n";
        breaks(test, whole + "        checkNode(node);\n", whole);
        breaks(test, whole, whole + "if (node == 8) { throw new IllegalArgumentException(); }\n");
    }

    private static void planAnswers() throws Exception {
        for (String call : new String[] {"arrival", "arrivalByRounds"}) {
            String head = "public int " + call
                    + "(int node, int destination) throws IndexOutOfBoundsException {\n";
            String both = head + "        checkNode(node);\n        checkNode(destination);\n";
            breaks(call + "NoNode", both, head + "checkNode(node);\n");
            breaks(call + "NoNode", both, head + "checkNode(destination);\n");
            breaks(call + "SecondOrNone", both, both + "if (node != destination && now == 0) { return 0; }\n");
        }
        breaks("arrivalSecondOrNone",
                "return secondOrNone(plan.arrivalByNodes(node, destination, now));",
                "return plan.arrivalByNodes(node, destination, now);");
        breaks("arrivalByRoundsSecondOrNone",
                "return secondOrNone(plan.arrivalByContacts(node, destination, now));",
                "return plan.arrivalByContacts(node, destination, now);");
        breaks("arrivalOverAllNodes", "round < NODES; round++", "round < NODES - 2; round++");
        breaks("arrivalOverAllNodes", "reached[node] < earliest) {", "nearest == NONE && reached[node] < NEVER) {");
        breaks("arrivalByRoundsOverAllNodes", "round < NODES && changed", "round < NODES - 2 && changed");
        breaks("promisedBeforeItsEnd", "earliest < asked.end", "earliest <= asked.end");
        breaks("promisedBeforeItsEnd", "earliest < asked.end", "earliest < asked.end - 1");
        breaks("promisedBehindTheLastSecond",
                "Bundle asked = numbered(bundle);\n        int earliest = NEVER;",
                "Bundle asked = numbered(bundle);\n        int earliest = LAST_SECOND;");
        breaks("promisedFromAllHolders",
                "Math.min(earliest, plan.arrivalByNodes(node, asked.destination, now))",
                "plan.arrivalByNodes(node, asked.destination, now)");
        breaks("promisedFromAllHolders", "            if (asked.isAt(node)) {\n                earliest",
                "            if (asked.custodian == node) {\n                earliest");
        breaks("promisedOfNobody", "            if (asked.isAt(node)) {\n                earliest",
                "            if (true) {\n                earliest");
    }
}
