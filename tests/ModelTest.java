import java.util.ArrayList;
import java.util.Comparator;
import java.util.List;
import java.util.TreeMap;
import java.util.TreeSet;

/**
 * Generated runs of 512 calls, the same ones each time; after each call the answer, the exception
 * and the whole state are compared with those of a model that is built in another way: it keeps
 * the copies as a list, finds a state of a bundle by asking that list, and an arrival by flooding
 * the nodes second by second.
 */
public final class ModelTest {
    private static final int RUNS = 600;
    private static final int CALLS = 512;

    private static long seed;
    private static int wrong = 0;

    public static void main(String[] args) {
        TreeMap<String, Integer> seen = new TreeMap<>();
        for (int run = 1; run <= RUNS && wrong < 20; run++) {
            seed = run * 7919L;
            run(run, seen);
        }
        System.out.println(seen);
        System.out.println(wrong == 0 ? "all answers are the model's" : "there are other answers");
        if (wrong != 0) {
            System.exit(1);
        }
    }

    private static int below(int bound) {
        seed = seed * 6364136223846793005L + 1442695040888963407L;
        return (int) ((seed >>> 33) % bound);
    }

    private static void run(int run, TreeMap<String, Integer> seen) {
        Delaypouch x = new Delaypouch();
        Model model = new Model();
        // A style of its own for each run: few nodes meet often, short times make full use of ends.
        int nodes = 3 + below(6);
        int scale = new int[] {12, 40, 150, 2000}[below(4)];
        for (int call = 0; call < CALLS; call++) {
            int[] c = makeCall(nodes, scale);
            String want = answer(() -> callModel(model, c));
            String got = answer(() -> callClass(x, c));
            seen.merge(c[0] + (want.startsWith("t") ? want : ""), 1, Integer::sum);
            String text = "run " + run + " call " + call + " " + java.util.Arrays.toString(c);
            if (!want.equals(got)) {
                wrong++;
                System.out.println(text + ": answered " + got + ", the model " + want);
            }
            compare(text, x, model, call % 8 == 0);
            if (wrong > 0) {
                return;
            }
        }
    }

    private static int[] makeCall(int nodes, int scale) {
        int kind = below(100);
        int node = below(40) == 0 ? below(10) - 1 : below(nodes);
        int other = below(12) == 0 ? below(10) - 1 : (Math.max(node, 0) + 1 + below(nodes - 1)) % nodes;
        if (kind < 9) {
            int copies = below(20) == 0 ? below(67) : 1 + below(12);
            int lifetime = below(30) == 0 ? below(3) * 5001 : 1 + below(scale * 3);
            int priority = below(30) == 0 ? below(5) - 1 : below(3);
            return new int[] {0, node, other, priority, copies, lifetime};
        }
        if (kind < 70) {
            return new int[] {1, node, other, below(3) == 0 ? below(24) - 1 : 1 + below(3)};
        }
        if (kind < 84) {
            return new int[] {2, below(40) == 0 ? below(3) * 5001 - 1 : 1 + below(scale)};
        }
        if (kind < 91) {
            return new int[] {3, node, below(3) == 0 ? below(11) - 1 : 1 + below(3)};
        }
        int first = below(60) == 0 ? 99999 + below(3) : below(scale * 14) - (below(30) == 0 ? 9 : 0);
        int last = below(15) == 0 ? first - 1 + below(2) : first + below(scale);
        return new int[] {4, node, other, first, last};
    }

    private interface Call {
        long go();
    }

    private static String answer(Call call) {
        try {
            return String.valueOf(call.go());
        } catch (RuntimeException e) {
            return "throws " + e.getClass().getSimpleName();
        }
    }

    private static long callClass(Delaypouch x, int[] c) {
        switch (c[0]) {
            case 0: return x.send(c[1], c[2], c[3], c[4], c[5]);
            case 1: return x.meet(c[1], c[2], c[3]);
            case 2: return x.pass(c[1]);
            case 3: return x.setBuffer(c[1], c[2]);
            default: return x.addContact(c[1], c[2], c[3], c[4]);
        }
    }

    private static long callModel(Model m, int[] c) {
        switch (c[0]) {
            case 0: return m.send(c[1], c[2], c[3], c[4], c[5]);
            case 1: return m.meet(c[1], c[2], c[3]);
            case 2: return m.pass(c[1]);
            case 3: return m.setBuffer(c[1], c[2]);
            default: return m.addContact(c[1], c[2], c[3], c[4]);
        }
    }

    private static void same(String text, String what, long want, long got) {
        if (want != got) {
            wrong++;
            System.out.println(text + ", then " + what + ": answered " + got + ", the model " + want);
        }
    }

    private static void compare(String text, Delaypouch x, Model m, boolean planToo) {
        same(text, "clock", m.clock, x.clock());
        same(text, "bundles", m.bundles.size(), x.bundles());
        for (Bundle b : m.bundles) {
            same(text, "endOf " + b.number, b.end, x.endOf(b.number));
            same(text, "deliveredAt " + b.number, b.deliveredAt, x.deliveredAt(b.number));
            same(text, "hops " + b.number, b.hops, x.hops(b.number));
            same(text, "custodian " + b.number, b.custodian, x.custodian(b.number));
            long bits = 0;
            for (int n = 0; n < 8; n++) {
                Copy copy = m.copyAt(n, b);
                bits += copy == null ? 0 : 1L << n;
                same(text, "copies", copy == null ? 0 : copy.count, x.copies(n, b.number));
                same(text, "knows", b.knowers.contains(n) ? 1 : 0, x.knows(n, b.number) ? 1 : 0);
            }
            same(text, "holders " + b.number, bits, x.holders(b.number));
            if (planToo) {
                same(text, "promised " + b.number, m.promised(b), x.promised(b.number));
            }
        }
        for (int n = 0; n < 8; n++) {
            same(text, "dropped " + n, m.dropped[n], x.dropped(n));
            same(text, "refused " + n, m.refused[n], x.refused(n));
            List<Copy> there = m.copiesAt(n);
            same(text, "held " + n, there.size(), x.held(n));
            for (int p = 0; p < there.size() && p < x.held(n); p++) {
                same(text, "heldAt " + n + " " + p, there.get(p).bundle.number, x.heldAt(n, p));
            }
            for (int d = 0; d < 8 && planToo; d++) {
                long want = m.arrival(n, d);
                same(text, "arrival " + n + " " + d, want, x.arrival(n, d));
                same(text, "arrivalByRounds " + n + " " + d, want, x.arrivalByRounds(n, d));
            }
        }
    }

    private static final class Bundle {
        int number;
        int destination;
        int priority;
        int end;
        int custodian;
        int deliveredAt = -1;
        int hops = 0;
        TreeSet<Integer> knowers = new TreeSet<>();
    }

    private static final class Copy {
        Bundle bundle;
        int node;
        int count;
        int hops;
    }

    private static final Comparator<Bundle> ORDER = Comparator.<Bundle>comparingInt(b -> -b.priority)
            .thenComparingInt(b -> b.end).thenComparingInt(b -> b.number);

    private static final class Model {
        int clock = 0;
        final List<Bundle> bundles = new ArrayList<>();
        final List<Copy> all = new ArrayList<>();
        final List<int[]> contacts = new ArrayList<>();
        final int[] places = {4, 4, 4, 4, 4, 4, 4, 4};
        final int[] dropped = new int[8];
        final int[] refused = new int[8];

        void nodes(int... nodes) {
            for (int n : nodes) {
                if (n < 0 || n > 7) {
                    throw new IndexOutOfBoundsException();
                }
            }
        }

        void ask(boolean fine) {
            if (!fine) {
                throw new IllegalArgumentException();
            }
        }

        void can(boolean fine) {
            if (!fine) {
                throw new IllegalStateException();
            }
        }

        Copy copyAt(int node, Bundle bundle) {
            for (Copy copy : all) {
                if (copy.node == node && copy.bundle == bundle) {
                    return copy;
                }
            }
            return null;
        }

        List<Copy> copiesAt(int node) {
            List<Copy> there = new ArrayList<>();
            for (Copy copy : all) {
                if (copy.node == node) {
                    there.add(copy);
                }
            }
            there.sort((a, b) -> ORDER.compare(a.bundle, b.bundle));
            return there;
        }

        /** Whether the bundle has come. */
        boolean come(Bundle bundle, int node, int count, int hops) {
            List<Copy> there = copiesAt(node);
            if (there.size() == places[node]) {
                there.removeIf(copy -> copy.bundle.custodian == node);
                if (there.isEmpty()) {
                    return false;
                }
                Copy last = there.get(there.size() - 1);
                if (last.bundle.priority >= bundle.priority) {
                    return false;
                }
                all.remove(last);
                dropped[node]++;
            }
            Copy copy = new Copy();
            copy.bundle = bundle;
            copy.node = node;
            copy.count = count;
            copy.hops = hops;
            all.add(copy);
            return true;
        }

        int send(int source, int destination, int priority, int copies, int lifetime) {
            nodes(source, destination);
            ask(source != destination && priority >= 0 && priority <= 2 && copies >= 1);
            ask(copies <= 64 && lifetime >= 1 && lifetime <= 10000);
            can(bundles.size() < 40);
            Bundle bundle = new Bundle();
            bundle.number = bundles.size();
            bundle.destination = destination;
            bundle.priority = priority;
            bundle.end = clock + lifetime;
            bundle.custodian = source;
            can(come(bundle, source, copies, 0));
            bundles.add(bundle);
            return bundle.number;
        }

        void learn(int node, Bundle bundle) {
            bundle.knowers.add(node);
            all.remove(copyAt(node, bundle));
            if (bundle.custodian == node) {
                bundle.custodian = -1;
            }
        }

        int meet(int node, int other, int most) {
            nodes(node, other);
            ask(node != other && most >= 0 && most <= 20);
            for (Bundle bundle : bundles) {
                if (bundle.knowers.contains(node) || bundle.knowers.contains(other)) {
                    learn(node, bundle);
                    learn(other, bundle);
                }
            }
            List<Copy> deliver = new ArrayList<>();
            List<Copy> spray = new ArrayList<>();
            for (Copy copy : all) {
                int to = copy.node == node ? other : node;
                if (copy.node != node && copy.node != other) {
                    continue;
                }
                if (copy.bundle.destination == to) {
                    deliver.add(copy);
                } else if (copy.bundle.destination != copy.node && copy.count > 1
                        && copyAt(to, copy.bundle) == null) {
                    spray.add(copy);
                }
            }
            deliver.sort((a, b) -> ORDER.compare(a.bundle, b.bundle));
            spray.sort((a, b) -> ORDER.compare(a.bundle, b.bundle));
            int made = 0;
            for (Copy copy : deliver) {
                if (made == most) {
                    break;
                }
                copy.bundle.deliveredAt = clock;
                copy.bundle.hops = copy.hops + 1;
                learn(copy.node, copy.bundle);
                learn(copy.bundle.destination, copy.bundle);
                made++;
            }
            for (Copy copy : spray) {
                if (made == most) {
                    break;
                }
                int to = copy.node == node ? other : node;
                if (!all.contains(copy)) {
                    continue;
                }
                if (!come(copy.bundle, to, copy.count / 2, copy.hops + 1)) {
                    refused[to]++;
                    continue;
                }
                copy.count -= copy.count / 2;
                made++;
            }
            for (Bundle bundle : bundles) {
                int has = bundle.custodian;
                if (has != node && has != other) {
                    continue;
                }
                int to = has == node ? other : node;
                if (copyAt(node, bundle) == null || copyAt(other, bundle) == null) {
                    continue;
                }
                int here = arrival(has, bundle.destination);
                int there = arrival(to, bundle.destination);
                if (there != -1 && (here == -1 || there < here)) {
                    bundle.custodian = to;
                }
            }
            return made;
        }

        int pass(int seconds) {
            ask(seconds >= 1 && seconds <= 10000);
            int lost = 0;
            for (int i = 0; i < seconds; i++) {
                clock++;
                for (Bundle bundle : bundles) {
                    if (bundle.end == clock) {
                        all.removeIf(copy -> copy.bundle == bundle);
                        bundle.custodian = -1;
                        lost += bundle.deliveredAt == -1 ? 1 : 0;
                    }
                }
            }
            return lost;
        }

        int setBuffer(int node, int count) {
            nodes(node);
            ask(count >= 1 && count <= 8);
            can(copiesAt(node).size() <= count);
            int before = places[node];
            places[node] = count;
            return before;
        }

        int addContact(int node, int other, int first, int last) {
            nodes(node, other);
            ask(node != other && first >= 0 && first <= 100000 && last >= first && last <= 100000);
            can(contacts.size() < 30);
            contacts.add(new int[] {node, other, first, last});
            return contacts.size();
        }

        /** Nothing new can be reached but at the clock and at the first seconds of contacts. */
        int arrival(int node, int destination) {
            TreeSet<Integer> seconds = new TreeSet<>();
            seconds.add(clock);
            for (int[] c : contacts) {
                if (c[2] > clock) {
                    seconds.add(c[2]);
                }
            }
            TreeSet<Integer> there = new TreeSet<>();
            there.add(node);
            for (int second : seconds) {
                int before;
                do {
                    before = there.size();
                    for (int[] c : contacts) {
                        boolean meets = c[2] <= second && second <= c[3];
                        if (meets && (there.contains(c[0]) || there.contains(c[1]))) {
                            there.add(c[0]);
                            there.add(c[1]);
                        }
                    }
                } while (there.size() > before);
                if (there.contains(destination)) {
                    return second;
                }
            }
            return -1;
        }

        int promised(Bundle bundle) {
            int earliest = -1;
            for (Copy copy : all) {
                if (copy.bundle == bundle) {
                    int second = arrival(copy.node, bundle.destination);
                    if (second != -1 && second < bundle.end && (earliest == -1 || second < earliest)) {
                        earliest = second;
                    }
                }
            }
            return earliest;
        }
    }
}
