/** One test or more for each promise of the document, by its number. */
public final class PromisesTest {
    private static int wrong = 0;

    private static final Class<?> INDEX = IndexOutOfBoundsException.class;
    private static final Class<?> ARGUMENT = IllegalArgumentException.class;
    private static final Class<?> STATE = IllegalStateException.class;
    private static final int[] NO_NODES = {-1, 8, 9, Integer.MIN_VALUE, Integer.MAX_VALUE};

    public static void main(String[] args) {
        newObject();
        sendAnswersAndStarts();
        sendTakesEdges();
        sendThrows();
        sendIntoFullBuffer();
        sendRefusedChangesNothing();
        meetThrows();
        meetReceiptsComeFirst();
        meetReceiptsGoBothWaysWithoutTransfers();
        meetDeliversBeforeSpraying();
        meetDeliversInOrder();
        meetSpraysInOrderFromBoth();
        meetSpraysHalfRoundedDown();
        meetSpraysJustWhatItMay();
        meetStopsAtMost();
        meetRefusedIsNoTransfer();
        meetDroppedMeanwhile();
        meetDroppedMeanwhileIsNotSprayedBack();
        meetMovesCustody();
        meetMovesCustodyOnlyToEarlier();
        meetMovesCustodyOfWhatBothHaveThen();
        pass();
        passOverIsGone();
        setBuffer();
        addContact();
        clock();
        bundles();
        endOf();
        deliveredAt();
        hops();
        hopsOfTheWayThatDelivered();
        custodian();
        holders();
        copies();
        knows();
        held();
        heldAt();
        dropped();
        refused();
        arrival();
        arrivalAtEdges();
        arrivalManyContacts();
        promised();
        System.out.println(wrong == 0 ? "all promises hold" : wrong + " answers are not as due");
        if (wrong != 0) {
            System.exit(1);
        }
    }

    private static void due(String what, long want, long got) {
        if (want != got) {
            wrong++;
            System.out.println(what + ": answered " + got + ", due is " + want);
        }
    }

    private static void due(String what, boolean want, boolean got) {
        due(what, want ? 1 : 0, got ? 1 : 0);
    }

    /** What the library throws by itself is no answer, even if it is of the kind that is due. */
    private static void fails(String what, Class<?> kind, Runnable call) {
        Class<?> got = null;
        try {
            call.run();
        } catch (RuntimeException e) {
            got = e.getClass();
            due(what + ": thrown by the class itself", true,
                    e.getStackTrace()[0].getClassName().startsWith("Delaypouch"));
        }
        if (got != kind) {
            wrong++;
            System.out.println(what + ": threw " + got + ", due is " + kind);
        }
    }

    /** All that can be asked of an object, as one text: two equal texts are two equal states. */
    private static String state(Delaypouch x) {
        StringBuilder s = new StringBuilder();
        s.append(x.clock()).append(' ').append(x.bundles());
        for (int b = 0; b < x.bundles(); b++) {
            s.append("|b").append(x.endOf(b)).append(',').append(x.deliveredAt(b));
            s.append(',').append(x.hops(b)).append(',').append(x.custodian(b));
            s.append(',').append(x.holders(b)).append(',').append(x.promised(b));
        }
        for (int n = 0; n < 8; n++) {
            s.append("|n").append(x.dropped(n)).append(',').append(x.refused(n));
            for (int p = 0; p < x.held(n); p++) {
                s.append(',').append(x.heldAt(n, p));
            }
            for (int b = 0; b < x.bundles(); b++) {
                s.append(',').append(x.copies(n, b)).append(x.knows(n, b) ? 'k' : '-');
            }
            for (int d = 0; d < 8; d++) {
                s.append(',').append(x.arrival(n, d)).append(',').append(x.arrivalByRounds(n, d));
            }
        }
        return s.toString();
    }

    private static void failsUnchanged(String what, Class<?> kind, Delaypouch x, Runnable call) {
        String before = state(x);
        fails(what, kind, call);
        if (!before.equals(state(x))) {
            wrong++;
            System.out.println(what + ": changed something");
        }
    }

    // ---- promise 1

    private static void newObject() {
        Delaypouch x = new Delaypouch();
        due("NONE", -1, Delaypouch.NONE);
        due("new: clock", 0, x.clock());
        due("new: bundles", 0, x.bundles());
        for (int n = 0; n < 8; n++) {
            due("new: held", 0, x.held(n));
            due("new: dropped", 0, x.dropped(n));
            due("new: refused", 0, x.refused(n));
            for (int d = 0; d < 8; d++) {
                due("new: arrival", n == d ? 0 : -1, x.arrival(n, d));
                due("new: arrivalByRounds", n == d ? 0 : -1, x.arrivalByRounds(n, d));
            }
            due("new: setBuffer", 4, x.setBuffer(n, 4));
        }
        due("new: first contact", 1, x.addContact(0, 1, 0, 0));
        due("new: others are apart", 0, new Delaypouch().bundles());
    }

    // ---- promise 2

    private static void sendAnswersAndStarts() {
        Delaypouch x = new Delaypouch();
        x.pass(7);
        due("send", 0, x.send(3, 5, 1, 6, 10));
        due("send second", 1, x.send(5, 3, 0, 1, 1));
        due("send: end", 17, x.endOf(0));
        due("send: custodian", 3, x.custodian(0));
        due("send: holders", 1 << 3, x.holders(0));
        due("send: copies", 6, x.copies(3, 0));
        due("send: not at destination", 0, x.copies(5, 0));
        due("send: delivered", -1, x.deliveredAt(0));
        due("send: hops", 0, x.hops(0));
        due("send: held", 1, x.held(3));
        due("send: second at its source", 1, x.heldAt(5, 0));
        due("send: known", false, x.knows(3, 0));
    }

    private static void sendTakesEdges() {
        Delaypouch x = new Delaypouch();
        due("send least", 0, x.send(0, 7, 0, 1, 1));
        due("send most", 1, x.send(7, 0, 2, 64, 10000));
        due("send most: copies", 64, x.copies(7, 1));
        due("send most: end", 10000, x.endOf(1));
    }

    private static void sendThrows() {
        Delaypouch x = new Delaypouch();
        for (int no : NO_NODES) {
            failsUnchanged("send from " + no, INDEX, x, () -> x.send(no, 1, 0, 1, 1));
            failsUnchanged("send to " + no, INDEX, x, () -> x.send(1, no, 0, 1, 1));
            failsUnchanged("send both " + no, INDEX, x, () -> x.send(no, no, 9, 0, 0));
        }
        failsUnchanged("send to itself", ARGUMENT, x, () -> x.send(2, 2, 0, 1, 1));
        failsUnchanged("send priority -1", ARGUMENT, x, () -> x.send(0, 1, -1, 1, 1));
        failsUnchanged("send priority 3", ARGUMENT, x, () -> x.send(0, 1, 3, 1, 1));
        failsUnchanged("send copies 0", ARGUMENT, x, () -> x.send(0, 1, 0, 0, 1));
        failsUnchanged("send copies -1", ARGUMENT, x, () -> x.send(0, 1, 0, -1, 1));
        failsUnchanged("send copies 65", ARGUMENT, x, () -> x.send(0, 1, 0, 65, 1));
        failsUnchanged("send lifetime 0", ARGUMENT, x, () -> x.send(0, 1, 0, 1, 0));
        failsUnchanged("send lifetime -1", ARGUMENT, x, () -> x.send(0, 1, 0, 1, -1));
        failsUnchanged("send lifetime 10001", ARGUMENT, x, () -> x.send(0, 1, 0, 1, 10001));
        for (int i = 0; i < 40; i++) {
            due("send to the limit", i, x.send(i % 8, (i + 1) % 8, 0, 1, 1));
            x.pass(1);
        }
        failsUnchanged("send 41st", STATE, x, () -> x.send(0, 1, 2, 1, 1));
        failsUnchanged("send 41st, bad node", INDEX, x, () -> x.send(8, 1, 2, 1, 1));
        failsUnchanged("send 41st, bad copies", ARGUMENT, x, () -> x.send(0, 1, 2, 0, 1));
    }

    /** A network whose node 1 has in custody of node 0 two bundles, with two places in all. */
    private static Delaypouch twoForeignBundles(int priority, int otherPriority) {
        Delaypouch x = new Delaypouch();
        x.setBuffer(1, 2);
        x.send(0, 7, priority, 4, 100);
        x.send(0, 7, otherPriority, 4, 50);
        x.meet(0, 1, 20);
        return x;
    }

    private static void sendIntoFullBuffer() {
        Delaypouch x = twoForeignBundles(0, 0);
        due("send drops: number", 2, x.send(1, 6, 1, 1, 9));
        due("send drops the later end", 0, x.copies(1, 0));
        due("send keeps the earlier end", 2, x.copies(1, 1));
        due("send drops: counted", 1, x.dropped(1));
        due("send drops here only", 2, x.copies(0, 0));
        due("send drops: held", 2, x.held(1));
        due("send drops again", 3, x.send(1, 6, 1, 1, 9));
        due("send drops again: counted", 2, x.dropped(1));
        Delaypouch y = twoForeignBundles(0, 1);
        y.send(1, 6, 2, 1, 9);
        due("send drops the lower priority", 0, y.copies(1, 0));
        due("send keeps the higher priority", 2, y.copies(1, 1));
        Delaypouch z = twoForeignBundles(0, 0);
        z.setBuffer(1, 3);
        z.send(1, 6, 0, 1, 9000);
        z.send(1, 6, 1, 1, 9);
        due("send keeps what it is custodian of", 1, z.copies(1, 2));
        due("send drops the last of the others", 0, z.copies(1, 0));
    }

    private static void sendRefusedChangesNothing() {
        Delaypouch x = twoForeignBundles(1, 1);
        failsUnchanged("send same priority", STATE, x, () -> x.send(1, 6, 1, 1, 9));
        failsUnchanged("send lower priority", STATE, x, () -> x.send(1, 6, 0, 1, 9));
        due("send refused is no refusal of a meeting", 0, x.refused(1));
        due("send refused takes no number", 2, x.send(2, 6, 1, 1, 9));
        Delaypouch y = new Delaypouch();
        for (int i = 0; i < 4; i++) {
            y.send(0, 1, 0, 1, 50);
        }
        failsUnchanged("send among own custody", STATE, y, () -> y.send(0, 1, 2, 1, 9));
        failsUnchanged("send full, bad node", INDEX, y, () -> y.send(0, 8, 2, 1, 9));
        failsUnchanged("send full, bad priority", ARGUMENT, y, () -> y.send(0, 1, 3, 1, 9));
        y.pass(50);
        due("send when there is place again", 4, y.send(0, 1, 0, 1, 9));
    }

    // ---- promise 3

    private static void meetThrows() {
        Delaypouch x = new Delaypouch();
        x.send(0, 1, 0, 4, 100);
        for (int no : NO_NODES) {
            failsUnchanged("meet of " + no, INDEX, x, () -> x.meet(no, 1, 1));
            failsUnchanged("meet with " + no, INDEX, x, () -> x.meet(0, no, 1));
            failsUnchanged("meet both " + no, INDEX, x, () -> x.meet(no, no, 99));
        }
        failsUnchanged("meet itself", ARGUMENT, x, () -> x.meet(0, 0, 1));
        failsUnchanged("meet most -1", ARGUMENT, x, () -> x.meet(0, 1, -1));
        failsUnchanged("meet most 21", ARGUMENT, x, () -> x.meet(0, 1, 21));
        due("meet most 0", 0, x.meet(0, 1, 0));
        due("meet most 20", 1, x.meet(0, 1, 20));
        due("meet without anything", 0, x.meet(4, 5, 20));
    }

    /** A bundle that 1 delivers to 7, while 0 and 2 have it too. */
    private static Delaypouch deliveredByOne() {
        Delaypouch x = new Delaypouch();
        x.send(0, 7, 0, 8, 1000);
        x.meet(0, 1, 1);
        x.meet(1, 2, 1);
        x.pass(3);
        due("delivery", 1, x.meet(7, 1, 1));
        return x;
    }

    private static void meetReceiptsComeFirst() {
        Delaypouch x = deliveredByOne();
        due("nothing is sprayed behind a receipt", 0, x.meet(1, 0, 20));
        due("the custodian dropped it", 0, x.copies(0, 0));
        due("custody ended", -1, x.custodian(0));
        due("the one who has no receipt has it", 1 << 2, x.holders(0));
        due("no second delivery", 0, x.meet(2, 7, 20));
        due("delivered at the first", 3, x.deliveredAt(0));
        due("gone at all", 0, x.holders(0));
        due("a drop by receipt is not counted", 0, x.dropped(0) + x.dropped(1) + x.dropped(2));
    }

    private static void meetReceiptsGoBothWaysWithoutTransfers() {
        Delaypouch x = deliveredByOne();
        x.send(3, 6, 0, 1, 1000);
        x.meet(3, 6, 1);
        due("receipts need no transfer", 0, x.meet(7, 3, 0));
        due("one learned", true, x.knows(3, 0));
        due("the other learned", true, x.knows(7, 1));
        due("no one else learned", false, x.knows(0, 0));
    }

    private static void meetDeliversBeforeSpraying() {
        Delaypouch x = new Delaypouch();
        x.send(0, 7, 2, 4, 10);
        x.send(0, 1, 0, 4, 100);
        due("one transfer", 1, x.meet(0, 1, 1));
        due("it was the delivery", 0, x.deliveredAt(1));
        due("no spray", 0, x.copies(1, 0));
        due("then the spray", 1, x.meet(0, 1, 1));
        due("sprayed", 2, x.copies(1, 0));
    }

    private static void meetDeliversInOrder() {
        int[] order = {2, 3, 1, 0};
        for (int most = 0; most <= 5; most++) {
            Delaypouch x = new Delaypouch();
            x.send(0, 1, 0, 1, 10);
            x.send(1, 0, 1, 1, 90);
            x.send(0, 1, 1, 1, 80);
            x.send(1, 0, 1, 1, 80);
            due("deliveries", Math.min(most, 4), x.meet(1, 0, most));
            for (int i = 0; i < 4; i++) {
                boolean done = i < most;
                int source = order[i] % 2;
                due("delivery in order", done ? 0 : -1, x.deliveredAt(order[i]));
                due("its destination knows", done, x.knows(1 - source, order[i]));
                due("its giver knows", done, x.knows(source, order[i]));
                due("custody of it ended", done ? -1 : source, x.custodian(order[i]));
                due("its giver dropped it", done ? 0 : 1, x.copies(source, order[i]));
            }
        }
    }

    private static void meetSpraysInOrderFromBoth() {
        int[] order = {3, 1, 2, 0};
        for (int most = 0; most <= 5; most++) {
            Delaypouch x = new Delaypouch();
            x.send(0, 7, 0, 2, 10);
            x.send(1, 7, 1, 2, 30);
            x.send(0, 7, 1, 2, 30);
            x.send(1, 7, 1, 2, 20);
            due("sprays", Math.min(most, 4), x.meet(0, 1, most));
            for (int i = 0; i < 4; i++) {
                int taker = order[i] % 2 == 0 ? 1 : 0;
                due("spray in order", i < most ? 1 : 0, x.copies(taker, order[i]));
                due("the giver's", i < most ? 1 : 2, x.copies(1 - taker, order[i]));
            }
        }
    }

    private static void meetSpraysHalfRoundedDown() {
        for (int copies = 2; copies <= 64; copies++) {
            Delaypouch x = new Delaypouch();
            x.send(0, 7, 0, copies, 10);
            due("spray", 1, x.meet(1, 0, 3));
            due("half goes", copies / 2, x.copies(1, 0));
            due("the others stay", copies - copies / 2, x.copies(0, 0));
            due("custody stays", 0, x.custodian(0));
        }
    }

    private static void meetSpraysJustWhatItMay() {
        Delaypouch x = new Delaypouch();
        x.send(0, 7, 0, 1, 10);
        x.send(0, 1, 0, 9, 10);
        x.send(0, 7, 0, 5, 10);
        x.meet(0, 2, 20);
        due("one copy is not sprayed", 0, x.copies(2, 0));
        due("another's bundle is sprayed", 4, x.copies(2, 1));
        due("the other has it already", 0, x.meet(0, 2, 20));
        due("its copies stay", 3, x.copies(0, 2));
        due("its copies stay there", 2, x.copies(2, 2));
        due("a destination gets no copies", 1, x.meet(1, 0, 20) - 1);
        due("at the destination", 0, x.copies(1, 1));
        due("it is delivered", 0, x.deliveredAt(1));
    }

    private static void meetStopsAtMost() {
        Delaypouch x = new Delaypouch();
        x.setBuffer(1, 1);
        x.send(0, 7, 2, 2, 10);
        x.send(0, 7, 1, 2, 10);
        due("meet to the limit", 1, x.meet(0, 1, 1));
        due("behind the limit nothing is refused", 0, x.refused(1));
        Delaypouch y = new Delaypouch();
        for (int n = 0; n < 2; n++) {
            y.setBuffer(n, 8);
            for (int i = 0; i < 8; i++) {
                y.send(n, 1 - n, 0, 1, 10);
            }
        }
        due("sixteen in one meeting", 16, y.meet(0, 1, 16));
    }

    private static void meetRefusedIsNoTransfer() {
        Delaypouch x = new Delaypouch();
        x.setBuffer(1, 1);
        x.send(1, 6, 0, 1, 100);
        x.send(0, 7, 2, 2, 10);
        x.send(0, 1, 0, 1, 10);
        due("refused is no transfer", 1, x.meet(0, 1, 2));
        due("refused is counted", 1, x.refused(1));
        due("refused stays with all copies", 2, x.copies(0, 1));
        due("refused is not there", 0, x.copies(1, 1));
        due("the giver refused nothing", 0, x.refused(0));
    }

    private static void meetDroppedMeanwhile() {
        Delaypouch x = new Delaypouch();
        x.setBuffer(1, 1);
        x.send(0, 7, 0, 8, 100);
        x.meet(0, 1, 1);
        x.send(2, 7, 1, 2, 100);
        due("just the higher one", 1, x.meet(1, 2, 20));
        due("it came", 1, x.copies(1, 1));
        due("the dropped one was not sprayed", 0, x.copies(2, 0));
        due("the dropped one is gone", 0, x.copies(1, 0));
        due("dropped counted", 1, x.dropped(1));
        due("nothing refused", 0, x.refused(1) + x.refused(2));
        due("it may come again", 4, x.copies(0, 0));
    }

    /** Both have bundle 0 when they meet; 1 drops it meanwhile, but it is not on the list. */
    private static void meetDroppedMeanwhileIsNotSprayedBack() {
        Delaypouch x = new Delaypouch();
        x.setBuffer(1, 2);
        x.send(0, 7, 0, 16, 100);
        x.meet(0, 1, 1);
        x.setBuffer(1, 1);
        x.send(0, 7, 2, 2, 100);
        due("one spray", 1, x.meet(0, 1, 20));
        due("the new one came", 1, x.copies(1, 1));
        due("the old one went", 0, x.copies(1, 0));
        due("nobody refused it", 0, x.refused(1));
        x.pass(1);
        x.setBuffer(1, 2);
        due("it comes at the next meeting", 1, x.meet(0, 1, 20));
        due("half of the copies", 4, x.copies(1, 0));
    }

    private static void meetMovesCustody() {
        Delaypouch x = new Delaypouch();
        x.addContact(2, 7, 30, 40);
        x.addContact(1, 7, 20, 25);
        x.send(0, 7, 0, 16, 1000);
        x.meet(0, 2, 1);
        due("custody to one with an arrival", 2, x.custodian(0));
        x.meet(1, 2, 1);
        due("custody to an earlier arrival", 1, x.custodian(0));
        x.meet(1, 2, 1);
        due("custody stays at the earlier", 1, x.custodian(0));
        x.pass(26);
        x.meet(0, 1, 0);
        due("custody stays among those without", 1, x.custodian(0));
        x.meet(1, 2, 0);
        due("custody moves without a transfer", 2, x.custodian(0));
    }

    private static void meetMovesCustodyOnlyToEarlier() {
        Delaypouch x = new Delaypouch();
        x.addContact(0, 7, 20, 40);
        x.addContact(1, 7, 20, 40);
        x.send(0, 7, 0, 4, 1000);
        x.send(3, 7, 0, 4, 1000);
        x.meet(0, 1, 1);
        due("custody stays at the same arrival", 0, x.custodian(0));
        x.meet(3, 4, 1);
        due("custody stays if both have none", 3, x.custodian(1));
        x.meet(4, 1, 20);
        due("custody stays if neither is custodian", 3, x.custodian(1));
        due("custody stays if neither is custodian, 0", 0, x.custodian(0));
    }

    private static void meetMovesCustodyOfWhatBothHaveThen() {
        Delaypouch x = new Delaypouch();
        x.addContact(1, 7, 20, 40);
        x.send(0, 7, 0, 1, 1000);
        x.send(0, 6, 0, 4, 1000);
        x.send(0, 7, 0, 4, 1000);
        x.meet(0, 1, 20);
        due("one copy keeps its custodian", 0, x.custodian(0));
        due("another destination has no arrival", 0, x.custodian(1));
        due("sprayed now, custody moved", 1, x.custodian(2));
        x.setBuffer(1, 2);
        due("a custodian does not drop", 3, x.send(3, 5, 2, 2, 100));
        x.meet(3, 1, 20);
        due("it drops what it is not custodian of", 0, x.copies(1, 1));
        due("it has what it is custodian of", 1, x.copies(1, 2));
    }

    // ---- promise 4

    private static void pass() {
        Delaypouch x = new Delaypouch();
        int[] no = {0, -1, 10001, Integer.MIN_VALUE, Integer.MAX_VALUE};
        for (int seconds : no) {
            failsUnchanged("pass " + seconds, ARGUMENT, x, () -> x.pass(seconds));
        }
        due("pass 1", 0, x.pass(1));
        due("pass 10000", 0, x.pass(10000));
        due("pass: clock", 10001, x.clock());
        x.send(0, 1, 0, 1, 5);
        x.send(0, 1, 0, 1, 6);
        x.send(1, 2, 0, 1, 6);
        x.send(1, 2, 0, 1, 7);
        due("pass before all ends", 0, x.pass(4));
        due("pass to the first end", 1, x.pass(1));
        x.meet(0, 1, 1);
        due("pass without the delivered one", 1, x.pass(1));
        due("pass over the last", 1, x.pass(100));
        due("pass counts none twice", 0, x.pass(100));
    }

    private static void passOverIsGone() {
        Delaypouch x = deliveredByOne();
        x.send(0, 6, 0, 8, 10);
        x.meet(0, 3, 1);
        x.pass(10);
        due("over: holders", 0, x.holders(1));
        due("over: custodian", -1, x.custodian(1));
        due("over: held", 0, x.held(3));
        due("over: not delivered any more", 0, x.meet(3, 6, 20));
        due("over: delivered", -1, x.deliveredAt(1));
        due("over: end", 13, x.endOf(1));
        due("over: still counted", 2, x.bundles());
        due("over: dropped is not counted", 0, x.dropped(0) + x.dropped(3));
        due("over, but delivered", 0, x.pass(2000));
        due("known stays known", true, x.knows(7, 0));
        due("delivered stays delivered", 3, x.deliveredAt(0));
        due("hops stay", 2, x.hops(0));
        x.meet(7, 5, 0);
        due("what is over is learned still", true, x.knows(5, 0));
    }

    // ---- promise 5

    private static void setBuffer() {
        Delaypouch x = new Delaypouch();
        for (int no : NO_NODES) {
            failsUnchanged("setBuffer " + no, INDEX, x, () -> x.setBuffer(no, 4));
            failsUnchanged("setBuffer " + no + ", bad", INDEX, x, () -> x.setBuffer(no, 0));
        }
        failsUnchanged("setBuffer 0", ARGUMENT, x, () -> x.setBuffer(0, 0));
        failsUnchanged("setBuffer -1", ARGUMENT, x, () -> x.setBuffer(0, -1));
        failsUnchanged("setBuffer 9", ARGUMENT, x, () -> x.setBuffer(0, 9));
        due("setBuffer to 8", 4, x.setBuffer(0, 8));
        for (int i = 0; i < 8; i++) {
            due("eight places", i, x.send(0, 1, 0, 1, 10));
        }
        failsUnchanged("no ninth place", STATE, x, () -> x.send(0, 1, 0, 1, 10));
        failsUnchanged("setBuffer too small", STATE, x, () -> x.setBuffer(0, 7));
        failsUnchanged("setBuffer bad and small", ARGUMENT, x, () -> x.setBuffer(0, 0));
        due("setBuffer to the same", 8, x.setBuffer(0, 8));
        due("setBuffer of another", 4, x.setBuffer(7, 1));
        due("setBuffer of another again", 1, x.setBuffer(7, 8));
        x.pass(10);
        due("setBuffer when empty", 8, x.setBuffer(0, 1));
        x.send(0, 1, 0, 1, 10);
        fails("one place", STATE, () -> x.send(0, 1, 2, 1, 10));
        due("setBuffer with as many as it has", 1, x.setBuffer(0, 1));
    }

    // ---- promise 6

    private static void addContact() {
        Delaypouch x = new Delaypouch();
        for (int no : NO_NODES) {
            failsUnchanged("addContact of " + no, INDEX, x, () -> x.addContact(no, 1, 0, 0));
            failsUnchanged("addContact with " + no, INDEX, x, () -> x.addContact(1, no, 0, 0));
            failsUnchanged("addContact both " + no, INDEX, x, () -> x.addContact(no, no, 5, 4));
        }
        failsUnchanged("addContact itself", ARGUMENT, x, () -> x.addContact(1, 1, 0, 0));
        failsUnchanged("addContact first -1", ARGUMENT, x, () -> x.addContact(0, 1, -1, 0));
        failsUnchanged("addContact first too late", ARGUMENT, x,
                () -> x.addContact(0, 1, 100001, 100001));
        failsUnchanged("addContact last early", ARGUMENT, x, () -> x.addContact(0, 1, 5, 4));
        failsUnchanged("addContact last late", ARGUMENT, x, () -> x.addContact(0, 1, 5, 100001));
        failsUnchanged("addContact last far", ARGUMENT, x,
                () -> x.addContact(0, 1, 5, Integer.MAX_VALUE));
        due("addContact whole", 1, x.addContact(0, 1, 0, 100000));
        due("addContact last second", 2, x.addContact(2, 3, 100000, 100000));
        due("addContact last second used", 100000, x.arrival(2, 3));
        for (int i = 3; i <= 30; i++) {
            due("addContact the same again", i, x.addContact(1, 0, 0, 0));
        }
        failsUnchanged("addContact 31st", STATE, x, () -> x.addContact(4, 5, 0, 9));
        failsUnchanged("addContact 31st bad", ARGUMENT, x, () -> x.addContact(4, 5, 9, 0));
        failsUnchanged("addContact 31st no node", INDEX, x, () -> x.addContact(4, 8, 9, 0));
    }

    // ---- promises 7 to 13

    private static void clock() {
        Delaypouch x = new Delaypouch();
        x.pass(3);
        x.meet(0, 1, 5);
        x.send(0, 1, 0, 1, 5);
        due("clock", 3, x.clock());
        for (int i = 0; i < 500; i++) {
            x.pass(10000);
        }
        due("clock far", 5000003, x.clock());
    }

    private static void bundles() {
        Delaypouch x = new Delaypouch();
        x.send(0, 1, 0, 1, 5);
        x.send(1, 0, 0, 1, 5);
        due("bundles", 2, x.bundles());
        x.pass(5);
        due("bundles over count too", 2, x.bundles());
    }

    private static void noBundle(String what, java.util.function.IntConsumer call) {
        int[] no = {-1, 1, 40, Integer.MIN_VALUE, Integer.MAX_VALUE};
        for (int bundle : no) {
            fails(what + " of " + bundle, INDEX, () -> call.accept(bundle));
        }
    }

    private static Delaypouch oneBundle() {
        Delaypouch x = new Delaypouch();
        x.pass(2);
        x.send(4, 5, 1, 12, 30);
        return x;
    }

    private static void endOf() {
        Delaypouch x = oneBundle();
        due("endOf", 32, x.endOf(0));
        x.pass(40);
        due("endOf stays", 32, x.endOf(0));
        noBundle("endOf", x::endOf);
        fails("endOf without any", INDEX, () -> new Delaypouch().endOf(0));
    }

    private static void deliveredAt() {
        Delaypouch x = oneBundle();
        noBundle("deliveredAt", x::deliveredAt);
        due("not delivered", -1, x.deliveredAt(0));
        x.pass(29);
        x.meet(5, 4, 1);
        due("delivered in its last second", 31, x.deliveredAt(0));
        Delaypouch y = oneBundle();
        y.pass(30);
        y.meet(5, 4, 1);
        due("not delivered at its end", -1, y.deliveredAt(0));
    }

    private static void hops() {
        Delaypouch x = oneBundle();
        noBundle("hops", x::hops);
        x.meet(4, 3, 1);
        x.meet(3, 2, 1);
        due("hops before delivery", 0, x.hops(0));
        x.meet(2, 5, 1);
        due("hops", 3, x.hops(0));
        Delaypouch y = oneBundle();
        y.meet(4, 3, 1);
        y.meet(4, 5, 1);
        due("hops from the source", 1, y.hops(0));
    }

    /** Node 1 gets the bundle from 0, drops it, and gets it again over 2. */
    private static void hopsOfTheWayThatDelivered() {
        Delaypouch x = new Delaypouch();
        x.setBuffer(1, 1);
        x.send(0, 7, 0, 64, 1000);
        x.meet(0, 1, 1);
        x.send(1, 6, 1, 1, 5);
        due("dropped on the way", 0, x.copies(1, 0));
        x.meet(0, 2, 1);
        x.meet(2, 3, 1);
        x.pass(5);
        due("comes again", 1, x.meet(3, 1, 1));
        x.meet(1, 7, 1);
        due("hops of the later way", 4, x.hops(0));
    }

    private static void custodian() {
        Delaypouch x = oneBundle();
        noBundle("custodian", x::custodian);
        due("custodian at first", 4, x.custodian(0));
        x.meet(4, 3, 1);
        x.meet(3, 5, 1);
        due("custody stays without the receipt", 4, x.custodian(0));
        x.meet(5, 2, 0);
        due("another's receipt does not end it", 4, x.custodian(0));
        x.meet(2, 4, 0);
        due("the receipt ends it", -1, x.custodian(0));
        Delaypouch y = oneBundle();
        y.meet(4, 5, 1);
        due("its own delivery ends it", -1, y.custodian(0));
        Delaypouch z = oneBundle();
        z.pass(29);
        due("custody before the end", 4, z.custodian(0));
        z.pass(1);
        due("custody at the end", -1, z.custodian(0));
    }

    private static void holders() {
        Delaypouch x = oneBundle();
        noBundle("holders", x::holders);
        due("holders at first", 1 << 4, x.holders(0));
        x.meet(4, 7, 1);
        x.meet(4, 0, 1);
        due("holders", 1 << 4 | 1 << 7 | 1, x.holders(0));
        x.meet(0, 5, 1);
        due("holders after delivery", 1 << 4 | 1 << 7, x.holders(0));
        x.pass(30);
        due("holders at the end", 0, x.holders(0));
    }

    // ---- promises 14 to 19

    private static void noNode(String what, java.util.function.IntConsumer call) {
        for (int node : NO_NODES) {
            fails(what + " at " + node, INDEX, () -> call.accept(node));
        }
    }

    private static void copies() {
        Delaypouch x = oneBundle();
        noBundle("copies", b -> x.copies(0, b));
        noNode("copies", n -> x.copies(n, 0));
        noNode("copies, no bundle", n -> x.copies(n, 1));
        due("copies", 12, x.copies(4, 0));
        due("copies elsewhere", 0, x.copies(0, 0));
        x.meet(4, 0, 1);
        x.meet(0, 1, 1);
        x.meet(1, 2, 1);
        due("copies 4", 6, x.copies(4, 0));
        due("copies 0", 3, x.copies(0, 0));
        due("copies 1", 2, x.copies(1, 0));
        due("copies 2", 1, x.copies(2, 0));
        due("the last copy is not sprayed", 0, x.meet(2, 3, 9));
        x.pass(30);
        due("copies over", 0, x.copies(4, 0));
    }

    private static void knows() {
        Delaypouch x = oneBundle();
        noBundle("knows", b -> x.knows(0, b));
        noNode("knows", n -> x.knows(n, 0));
        noNode("knows, no bundle", n -> x.knows(n, 1));
        x.meet(4, 3, 1);
        x.meet(3, 5, 1);
        for (int n = 0; n < 8; n++) {
            due("knows " + n, n == 3 || n == 5, x.knows(n, 0));
        }
        x.meet(3, 0, 0);
        due("knows by receipt", true, x.knows(0, 0));
        due("knows not yet", false, x.knows(4, 0));
    }

    private static void held() {
        Delaypouch x = oneBundle();
        noNode("held", x::held);
        x.send(4, 0, 0, 1, 5);
        due("held", 2, x.held(4));
        due("held nothing", 0, x.held(0));
        x.pass(5);
        due("held after an end", 1, x.held(4));
    }

    private static void heldAt() {
        Delaypouch x = new Delaypouch();
        x.setBuffer(4, 8);
        noNode("heldAt, no bundles", n -> x.heldAt(n, 0));
        fails("heldAt of nothing", INDEX, () -> x.heldAt(4, 0));
        x.send(4, 0, 0, 1, 50);
        x.send(4, 0, 2, 1, 90);
        x.send(3, 0, 2, 1, 1);
        x.send(4, 0, 1, 1, 20);
        x.send(4, 0, 1, 1, 10);
        x.send(4, 0, 2, 1, 90);
        x.pass(1);
        x.send(4, 0, 1, 1, 9);
        int[] order = {1, 5, 4, 6, 3, 0};
        for (int i = 0; i < order.length; i++) {
            due("heldAt " + i, order[i], x.heldAt(4, i));
        }
        noNode("heldAt", n -> x.heldAt(n, 0));
        noNode("heldAt, no place", n -> x.heldAt(n, -1));
        fails("heldAt too many", INDEX, () -> x.heldAt(4, 6));
        fails("heldAt -1", INDEX, () -> x.heldAt(4, -1));
        fails("heldAt far", INDEX, () -> x.heldAt(4, Integer.MAX_VALUE));
        fails("heldAt far below", INDEX, () -> x.heldAt(4, Integer.MIN_VALUE));
        x.pass(9);
        due("heldAt moves up", 3, x.heldAt(4, 2));
    }

    private static void dropped() {
        Delaypouch x = twoForeignBundles(0, 1);
        noNode("dropped", x::dropped);
        due("dropped nothing", 0, x.dropped(1));
        x.send(2, 7, 2, 2, 100);
        x.meet(1, 2, 20);
        due("dropped in a meeting", 1, x.dropped(1));
        x.send(1, 7, 2, 2, 100);
        due("dropped by a send", 2, x.dropped(1));
        due("dropped elsewhere", 0, x.dropped(0) + x.dropped(2));
        x.pass(100);
        due("dropped, and ends are none", 2, x.dropped(1));
    }

    private static void refused() {
        Delaypouch x = twoForeignBundles(1, 1);
        noNode("refused", x::refused);
        x.send(2, 7, 1, 2, 100);
        x.send(2, 7, 0, 2, 100);
        due("no transfer", 0, x.meet(2, 1, 0));
        due("refused nothing", 0, x.refused(1));
        x.meet(2, 1, 20);
        due("refused two", 2, x.refused(1));
        due("the others came", 4, x.held(2));
        x.meet(1, 2, 20);
        due("refused again", 4, x.refused(1));
        due("refused elsewhere", 0, x.refused(0) + x.refused(2));
        due("refused has not dropped", 0, x.dropped(1));
    }

    // ---- promises 20 to 22

    private static void arrives(String what, Delaypouch x, int node, int destination, int want) {
        // The way back first: what an earlier question left behind must not matter.
        x.arrival(destination, node);
        due(what + " by rounds", want, x.arrivalByRounds(node, destination));
        x.arrivalByRounds(destination, node);
        due(what, want, x.arrival(node, destination));
    }

    private static void arrival() {
        Delaypouch x = new Delaypouch();
        noNode("arrival from", n -> x.arrival(n, 0));
        noNode("arrival at", n -> x.arrival(0, n));
        noNode("arrival both", n -> x.arrival(n, n));
        noNode("arrivalByRounds from", n -> x.arrivalByRounds(n, 0));
        noNode("arrivalByRounds at", n -> x.arrivalByRounds(0, n));
        noNode("arrivalByRounds both", n -> x.arrivalByRounds(n, n));
        x.addContact(2, 3, 30, 30);
        x.addContact(1, 2, 20, 30);
        x.addContact(1, 0, 10, 19);
        x.addContact(0, 3, 40, 50);
        arrives("arrival over three contacts", x, 0, 3, 30);
        arrives("arrival the other way", x, 3, 0, 40);
        arrives("arrival too late for more", x, 3, 1, 30);
        arrives("arrival at itself", x, 5, 5, 0);
        arrives("arrival at nobody's", x, 0, 5, -1);
        x.pass(19);
        arrives("arrival in the last second", x, 0, 1, 19);
        x.pass(1);
        arrives("arrival when it is over", x, 0, 1, -1);
        arrives("arrival by what is left", x, 0, 3, 40);
        arrives("arrival at itself is the clock", x, 0, 0, 20);
        x.pass(25);
        arrives("arrival in a contact", x, 0, 3, 45);
        x.pass(6);
        arrives("arrival after all", x, 0, 3, -1);
        arrives("arrival at itself after all", x, 3, 3, 51);
    }

    private static void arrivalAtEdges() {
        Delaypouch x = new Delaypouch();
        for (int n = 7; n > 0; n--) {
            x.addContact(n, n - 1, 0, 0);
        }
        arrives("all in one second", x, 0, 7, 0);
        arrives("all in one second, back", x, 7, 0, 0);
        x.addContact(0, 7, 5, 5);
        x.pass(1);
        arrives("just the later one", x, 0, 7, 5);
        arrives("no more", x, 0, 1, -1);
        Delaypouch y = new Delaypouch();
        y.addContact(0, 1, 100000, 100000);
        for (int i = 0; i < 10; i++) {
            y.pass(10000);
        }
        arrives("the last second of all", y, 1, 0, 100000);
        y.pass(1);
        arrives("behind the last second", y, 1, 0, -1);
        arrives("the clock behind it", y, 1, 1, 100001);
    }

    /** The longest way, with its contacts added from its end, needs the most rounds. */
    private static void arrivalManyContacts() {
        Delaypouch x = new Delaypouch();
        for (int n = 7; n > 0; n--) {
            x.addContact(n - 1, n, 10 * n, 10 * n + 5);
            x.addContact(n - 1, n, 500, 600);
            x.addContact(0, n, 200 + n, 300);
        }
        for (int n = 1; n < 8; n++) {
            arrives("chain to " + n, x, 0, n, 10 * n);
        }
        arrives("back from the end", x, 7, 0, 206);
        arrives("back from the end to 6", x, 7, 6, 70);
        x.pass(16);
        arrives("chain is broken", x, 0, 7, 207);
        arrives("chain is broken at its start only", x, 1, 7, 70);
        x.pass(290);
        arrives("the last ones", x, 0, 7, 500);
    }

    private static void promised() {
        Delaypouch x = new Delaypouch();
        x.addContact(1, 7, 20, 25);
        x.addContact(2, 7, 10, 30);
        x.send(0, 7, 0, 8, 20);
        x.send(0, 7, 0, 8, 21);
        noBundle("promised", b -> x.promised(b == 1 ? 2 : b));
        due("promised none", -1, x.promised(0));
        x.meet(0, 1, 20);
        due("promised at its end", -1, x.promised(0));
        due("promised before its end", 20, x.promised(1));
        x.meet(1, 2, 20);
        due("promised the earliest", 10, x.promised(0));
        due("promised the earliest too", 10, x.promised(1));
        x.pass(15);
        due("promised now", 15, x.promised(1));
        x.meet(2, 7, 1);
        due("promised by those who have it still", -1, x.promised(0));
        due("promised of the other", 15, x.promised(1));
        x.meet(2, 7, 1);
        due("promised, delivered", 20, x.promised(1));
        x.pass(6);
        due("promised when over", -1, x.promised(1));
        Delaypouch y = new Delaypouch();
        y.send(0, 7, 0, 1, 20);
        y.addContact(0, 7, 5, 6);
        due("promised from node 0", 5, y.promised(0));
        y.meet(0, 7, 1);
        due("promised when nobody has it", -1, y.promised(0));
    }
}
