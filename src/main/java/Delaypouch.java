import java.util.ArrayList;

/**
 * A store and carry network of eight nodes: bundles are sent, sprayed by halving when nodes meet,
 * delivered when the destination is met, and kept by a custodian until a receipt comes back.
 */
public final class Delaypouch {

    /** There is no such node or second. */
    public static final int NONE = -1;

    private static final int NODES = 8;
    private static final int MOST_BUNDLES = 40;
    private static final int MOST_CONTACTS = 30;
    private static final int HIGHEST_PRIORITY = 2;
    private static final int MOST_COPIES = 64;
    private static final int MOST_SECONDS = 10000;
    private static final int MOST_TRANSFERS = 20;
    private static final int FIRST_PLACES = 4;
    private static final int MOST_PLACES = 8;
    private static final int LAST_SECOND = 100000;

    /** Later than every second, so that an arrival is earlier than none by a plain comparison. */
    private static final int NEVER = 0x7fffffff;

    private int now;
    private final int[] places;
    private final int[] drops;
    private final int[] refusals;
    private final ArrayList<Bundle> sent;
    private final ArrayList<Bundle> ordered;
    private final Plan plan;

    /** Creates a network without bundles and contacts. */
    public Delaypouch() {
        now = 0;
        places = new int[NODES];
        drops = new int[NODES];
        refusals = new int[NODES];
        sent = new ArrayList<Bundle>();
        ordered = new ArrayList<Bundle>();
        plan = new Plan();
        for (int node = 0; node < NODES; node++) {
            places[node] = FIRST_PLACES;
        }
    }

    // ---- what happens

    /** Sends a bundle and returns its number. */
    public int send(int source, int destination, int priority, int copies, int lifetime)
            throws IndexOutOfBoundsException, IllegalArgumentException, IllegalStateException {
        if (!isNode(source) || !isNode(destination)) {
            throw new IndexOutOfBoundsException("no such node");
        }
        if (source == destination || !isWithin(priority, 0, HIGHEST_PRIORITY)
                || !isWithin(copies, 1, MOST_COPIES) || !isWithin(lifetime, 1, MOST_SECONDS)) {
            throw new IllegalArgumentException("not a bundle that can be sent");
        }
        if (sent.size() >= MOST_BUNDLES) {
            throw new IllegalStateException("no more bundles");
        }
        if (!makeRoom(source, priority)) {
            throw new IllegalStateException("refused");
        }
        Bundle bundle = new Bundle(sent.size(), destination, priority, now + lifetime);
        bundle.custodian = source;
        bundle.put(source, copies, 0);
        ordered.add(placeInOrder(bundle), bundle);
        sent.add(bundle);
        return bundle.number;
    }

    /** Lets two nodes meet and returns how many transfers are made. */
    public int meet(int node, int other, int most)
            throws IndexOutOfBoundsException, IllegalArgumentException {
        if (!isNode(node) || !isNode(other)) {
            throw new IndexOutOfBoundsException("no such node");
        }
        if (node == other || !isWithin(most, 0, MOST_TRANSFERS)) {
            throw new IllegalArgumentException("not a meeting");
        }
        exchangeReceipts(node, other);
        findSprays(node, other);
        int delivered = deliverSome(node, other, most);
        int sprayed = spraySome(node, other, most - delivered);
        moveCustody(node, other);
        return delivered + sprayed;
    }

    /** Lets seconds pass and returns how many bundles are over by that without delivery. */
    public int pass(int seconds) throws IllegalArgumentException {
        if (!isWithin(seconds, 1, MOST_SECONDS)) {
            throw new IllegalArgumentException("seconds out of range");
        }
        int before = now;
        now += seconds;
        int lost = 0;
        for (int i = 0; i < sent.size(); i++) {
            Bundle bundle = sent.get(i);
            if (bundle.end > before && bundle.end <= now) {
                bundle.vanish();
                if (bundle.deliverySecond == NONE) {
                    lost++;
                }
            }
        }
        return lost;
    }

    /** Changes the buffer of a node and returns the places before. */
    public int setBuffer(int node, int places)
            throws IndexOutOfBoundsException, IllegalArgumentException, IllegalStateException {
        if (!isNode(node)) {
            throw new IndexOutOfBoundsException("no such node");
        }
        if (!isWithin(places, 1, MOST_PLACES)) {
            throw new IllegalArgumentException("places out of range");
        }
        if (countAt(node) > places) {
            throw new IllegalStateException("the node has more bundles");
        }
        int before = this.places[node];
        this.places[node] = places;
        return before;
    }

    /** Adds a contact to the plan and returns how many it has then. */
    public int addContact(int node, int other, int first, int last)
            throws IndexOutOfBoundsException, IllegalArgumentException, IllegalStateException {
        if (!isNode(node) || !isNode(other)) {
            throw new IndexOutOfBoundsException("no such node");
        }
        if (node == other || !isWithin(first, 0, LAST_SECOND)
                || !isWithin(last, first, LAST_SECOND)) {
            throw new IllegalArgumentException("not a contact");
        }
        if (!plan.add(node, other, first, last)) {
            throw new IllegalStateException("no more contacts");
        }
        return plan.size;
    }

    // ---- bundles

    /** Returns the clock. */
    public int clock() {
        return now;
    }

    /** Returns how many bundles were sent. */
    public int bundles() {
        return sent.size();
    }

    /** Returns the end of a bundle. */
    public int endOf(int bundle) throws IndexOutOfBoundsException {
        return numbered(bundle).end;
    }

    /** Returns the second at which a bundle was delivered, NONE if it is not delivered. */
    public int deliveredAt(int bundle) throws IndexOutOfBoundsException {
        return numbered(bundle).deliverySecond;
    }

    /** Returns the transfers on the way of the delivered copy, 0 if there is none. */
    public int hops(int bundle) throws IndexOutOfBoundsException {
        return numbered(bundle).deliveryHops;
    }

    /** Returns the custodian of a bundle, NONE if custody has ended. */
    public int custodian(int bundle) throws IndexOutOfBoundsException {
        return numbered(bundle).custodian;
    }

    /** Returns the nodes that have a bundle, as bits. */
    public int holders(int bundle) throws IndexOutOfBoundsException {
        Bundle asked = numbered(bundle);
        int bits = 0;
        for (int node = 0; node < NODES; node++) {
            if (asked.isAt(node)) {
                bits |= 1 << node;
            }
        }
        return bits;
    }

    // ---- nodes

    /** Returns how many copies of a bundle a node has. */
    public int copies(int node, int bundle) throws IndexOutOfBoundsException {
        checkNode(node);
        return numbered(bundle).copiesAt[node];
    }

    /** Tells whether a node knows that a bundle is delivered. */
    public boolean knows(int node, int bundle) throws IndexOutOfBoundsException {
        checkNode(node);
        return numbered(bundle).knownAt[node];
    }

    /** Returns how many bundles a node has. */
    public int held(int node) throws IndexOutOfBoundsException {
        checkNode(node);
        return countAt(node);
    }

    /** Returns the bundle at a place among those that a node has, in the order of bundles. */
    public int heldAt(int node, int place) throws IndexOutOfBoundsException {
        checkNode(node);
        int passed = 0;
        for (int i = 0; i < ordered.size(); i++) {
            Bundle bundle = ordered.get(i);
            if (bundle.isAt(node)) {
                if (passed == place) {
                    return bundle.number;
                }
                passed++;
            }
        }
        throw new IndexOutOfBoundsException("the node does not have so many");
    }

    /** Returns how many bundles a node dropped because its buffer was full. */
    public int dropped(int node) throws IndexOutOfBoundsException {
        checkNode(node);
        return drops[node];
    }

    /** Returns how many bundles a node refused in meetings. */
    public int refused(int node) throws IndexOutOfBoundsException {
        checkNode(node);
        return refusals[node];
    }

    // ---- the plan

    /** Returns the arrival from a node at a destination, found node by node. */
    public int arrival(int node, int destination) throws IndexOutOfBoundsException {
        checkNode(node);
        checkNode(destination);
        return secondOrNone(plan.arrivalByNodes(node, destination, now));
    }

    /** Returns the same, found by going through all contacts again and again. */
    public int arrivalByRounds(int node, int destination) throws IndexOutOfBoundsException {
        checkNode(node);
        checkNode(destination);
        return secondOrNone(plan.arrivalByContacts(node, destination, now));
    }

    /** Returns the earliest arrival from all nodes that have a bundle, if before its end. */
    public int promised(int bundle) throws IndexOutOfBoundsException {
        Bundle asked = numbered(bundle);
        int earliest = NEVER;
        for (int node = 0; node < NODES; node++) {
            if (asked.isAt(node)) {
                earliest = Math.min(earliest, plan.arrivalByNodes(node, asked.destination, now));
            }
        }
        return earliest < asked.end ? secondOrNone(earliest) : NONE;
    }

    // ---- arguments and answers

    private static boolean isWithin(int number, int least, int most) {
        return least <= number && number <= most;
    }

    private static boolean isNode(int node) {
        return isWithin(node, 0, NODES - 1);
    }

    private static void checkNode(int node) {
        if (!isNode(node)) {
            throw new IndexOutOfBoundsException("no such node");
        }
    }

    private Bundle numbered(int bundle) {
        if (bundle < 0 || bundle >= sent.size()) {
            throw new IndexOutOfBoundsException("no such bundle");
        }
        return sent.get(bundle);
    }

    private static int secondOrNone(int second) {
        return second == NEVER ? NONE : second;
    }

    // ---- buffers

    private int placeInOrder(Bundle bundle) {
        int place = 0;
        while (place < ordered.size() && !bundle.isBefore(ordered.get(place))) {
            place++;
        }
        return place;
    }

    private int countAt(int node) {
        int count = 0;
        for (int i = 0; i < sent.size(); i++) {
            if (sent.get(i).isAt(node)) {
                count++;
            }
        }
        return count;
    }

    /** Answers false, and leaves all as it is, if a bundle of that priority is refused. */
    private boolean makeRoom(int node, int priority) {
        if (countAt(node) < places[node]) {
            return true;
        }
        Bundle last = lastWithoutCustody(node);
        if (last == null || last.priority >= priority) {
            return false;
        }
        last.leave(node);
        drops[node]++;
        return true;
    }

    private Bundle lastWithoutCustody(int node) {
        Bundle last = null;
        for (int i = 0; i < ordered.size(); i++) {
            Bundle bundle = ordered.get(i);
            if (bundle.isAt(node) && bundle.custodian != node) {
                last = bundle;
            }
        }
        return last;
    }

    // ---- meetings

    private void exchangeReceipts(int node, int other) {
        for (int i = 0; i < sent.size(); i++) {
            Bundle bundle = sent.get(i);
            if (bundle.knownAt[node] || bundle.knownAt[other]) {
                bundle.learn(node);
                bundle.learn(other);
            }
        }
    }

    /** Marks what is to be sprayed before anything is done: a drop meanwhile must not add to it. */
    private void findSprays(int node, int other) {
        for (int i = 0; i < sent.size(); i++) {
            Bundle bundle = sent.get(i);
            bundle.giver = NONE;
            if (bundle.canSpray(node, other)) {
                bundle.giver = node;
            } else if (bundle.canSpray(other, node)) {
                bundle.giver = other;
            }
        }
    }

    private int deliverSome(int node, int other, int most) {
        int made = 0;
        for (int i = 0; i < ordered.size() && made < most; i++) {
            Bundle bundle = ordered.get(i);
            if (bundle.canDeliver(node, other)) {
                bundle.deliver(node, now);
                made++;
            } else if (bundle.canDeliver(other, node)) {
                bundle.deliver(other, now);
                made++;
            }
        }
        return made;
    }

    private int spraySome(int node, int other, int most) {
        int made = 0;
        for (int i = 0; i < ordered.size() && made < most; i++) {
            Bundle bundle = ordered.get(i);
            if (bundle.giver == node && spray(bundle, node, other)) {
                made++;
            } else if (bundle.giver == other && spray(bundle, other, node)) {
                made++;
            }
        }
        return made;
    }

    private boolean spray(Bundle bundle, int giver, int taker) {
        if (!bundle.isAt(giver)) {
            return false;
        }
        if (!makeRoom(taker, bundle.priority)) {
            refusals[taker]++;
            return false;
        }
        bundle.halve(giver, taker);
        return true;
    }

    private void moveCustody(int node, int other) {
        for (int i = 0; i < sent.size(); i++) {
            Bundle bundle = sent.get(i);
            if (bundle.isAt(node) && bundle.isAt(other)) {
                if (bundle.custodian == node) {
                    moveCustodyIfNearer(bundle, node, other);
                } else if (bundle.custodian == other) {
                    moveCustodyIfNearer(bundle, other, node);
                }
            }
        }
    }

    private void moveCustodyIfNearer(Bundle bundle, int from, int to) {
        int there = plan.arrivalByNodes(to, bundle.destination, now);
        int here = plan.arrivalByNodes(from, bundle.destination, now);
        if (there < here) {
            bundle.custodian = to;
        }
    }

    /** A bundle, and where in the network it and its receipt are. */
    private static final class Bundle {
        final int number;
        final int destination;
        final int priority;
        final int end;
        final int[] copiesAt;
        final int[] hopsAt;
        final boolean[] knownAt;
        int custodian;
        int deliverySecond;
        int deliveryHops;
        int giver;

        Bundle(int number, int destination, int priority, int end) {
            this.number = number;
            this.destination = destination;
            this.priority = priority;
            this.end = end;
            copiesAt = new int[NODES];
            hopsAt = new int[NODES];
            knownAt = new boolean[NODES];
            custodian = NONE;
            deliverySecond = NONE;
            deliveryHops = 0;
            giver = NONE;
        }

        boolean isBefore(Bundle that) {
            if (priority != that.priority) {
                return priority > that.priority;
            }
            if (end != that.end) {
                return end < that.end;
            }
            return number < that.number;
        }

        boolean isAt(int node) {
            return copiesAt[node] > 0;
        }

        boolean canDeliver(int from, int to) {
            return isAt(from) && destination == to;
        }

        boolean canSpray(int from, int to) {
            return destination != from && destination != to && copiesAt[from] >= 2 && !isAt(to);
        }

        void put(int node, int copies, int hops) {
            copiesAt[node] = copies;
            hopsAt[node] = hops;
        }

        void leave(int node) {
            put(node, 0, 0);
        }

        void halve(int from, int to) {
            int half = copiesAt[from] / 2;
            copiesAt[from] -= half;
            put(to, half, hopsAt[from] + 1);
        }

        void deliver(int from, int second) {
            deliverySecond = second;
            deliveryHops = hopsAt[from] + 1;
            learn(from);
            learn(destination);
        }

        void learn(int node) {
            knownAt[node] = true;
            leave(node);
            if (custodian == node) {
                custodian = NONE;
            }
        }

        /** What is known of its delivery stays. */
        void vanish() {
            for (int node = 0; node < NODES; node++) {
                leave(node);
            }
            custodian = NONE;
        }
    }

    /** The contacts, and the rows in which arrivals are worked out. */
    private static final class Plan {
        final int[] nodes;
        final int[] others;
        final int[] firsts;
        final int[] lasts;
        final int[] reached;
        final boolean[] settled;
        int size;

        Plan() {
            nodes = new int[MOST_CONTACTS];
            others = new int[MOST_CONTACTS];
            firsts = new int[MOST_CONTACTS];
            lasts = new int[MOST_CONTACTS];
            reached = new int[NODES];
            settled = new boolean[NODES];
            size = 0;
        }

        /** Answers false if there are as many contacts as there can be. */
        boolean add(int node, int other, int first, int last) {
            if (size >= MOST_CONTACTS) {
                return false;
            }
            nodes[size] = node;
            others[size] = other;
            firsts[size] = first;
            lasts[size] = last;
            size++;
            return true;
        }

        /** The nodes are settled by rising arrivals: a settled one is reached no earlier later. */
        int arrivalByNodes(int from, int to, int now) {
            start(from, now);
            for (int round = 0; round < NODES; round++) {
                int nearest = nearestUnsettled();
                if (nearest == NONE || nearest == to) {
                    break;
                }
                settled[nearest] = true;
                spread(nearest);
            }
            return reached[to];
        }

        /** A way needs fewer contacts than there are nodes, so that as many rounds are enough. */
        int arrivalByContacts(int from, int to, int now) {
            start(from, now);
            boolean changed = true;
            for (int round = 0; round < NODES && changed; round++) {
                changed = false;
                for (int i = 0; i < size; i++) {
                    if (carry(i, nodes[i], others[i]) || carry(i, others[i], nodes[i])) {
                        changed = true;
                    }
                }
            }
            return reached[to];
        }

        private void start(int from, int now) {
            for (int node = 0; node < NODES; node++) {
                reached[node] = NEVER;
                settled[node] = false;
            }
            reached[from] = now;
        }

        private int nearestUnsettled() {
            int nearest = NONE;
            int earliest = NEVER;
            for (int node = 0; node < NODES; node++) {
                if (!settled[node] && reached[node] < earliest) {
                    nearest = node;
                    earliest = reached[node];
                }
            }
            return nearest;
        }

        private void spread(int from) {
            for (int i = 0; i < size; i++) {
                if (nodes[i] == from) {
                    carry(i, from, others[i]);
                } else if (others[i] == from) {
                    carry(i, from, nodes[i]);
                }
            }
        }

        /** Tells whether the contact brings something earlier to the node at its other side. */
        private boolean carry(int contact, int from, int to) {
            if (reached[from] > lasts[contact]) {
                return false;
            }
            int second = Math.max(reached[from], firsts[contact]);
            if (second >= reached[to]) {
                return false;
            }
            reached[to] = second;
            return true;
        }
    }
}
