import java.util.ArrayList;
import java.util.List;
import java.util.NoSuchElementException;
import java.util.Random;
import java.util.Set;

/** Runs of drawn calls, each answered by a ring and by a model that is written another way. */
public final class ModelTest {
    private static final int RUNS = 1000;
    private static final int CALLS = 512;
    private static final Set<String> ALLOWED = Set.of("throws.java.lang.IndexOutOfBoundsException",
            "throws.java.lang.IllegalArgumentException", "throws.java.lang.IllegalStateException",
            "throws.java.util.NoSuchElementException");

    private static final Checks checks = new Checks();

    public static void main(String[] args) {
        for (int seed = 0; seed < RUNS; seed++) {
            againstModel(seed);
        }
        for (int seed = 0; seed < 5; seed++) {
            beyondTheLast(seed);
        }
        checks.end("ModelTest");
    }

    private static void againstModel(int seed) {
        checks.begin("run " + seed);
        Draw draw = new Draw(seed);
        DyeRing ring = new DyeRing();
        Model model = new Model();
        for (int i = 0; i < CALLS; i++) {
            int[] call = draw.call();
            String want;
            try {
                want = Integer.toString(model.answer(call));
            } catch (Refusal e) {
                want = "throws." + e.getMessage();
            }
            checks.same("call " + i + " " + Draw.text(call), Checks.outcome(ring, r -> Draw.on(r, call)), want);
        }
    }

    /** After the 512th call the answers are free, but the machine itself still must not throw. */
    private static void beyondTheLast(int seed) {
        checks.begin("long run " + seed);
        Draw draw = new Draw(seed);
        DyeRing ring = new DyeRing();
        for (int i = 0; i < 200000; i++) {
            int[] call = draw.call();
            String got = Checks.outcome(ring, r -> Draw.on(r, call));
            if (got.startsWith("throws.")) {
                checks.same("call " + i + " " + Draw.text(call), String.valueOf(ALLOWED.contains(got)), "true");
            }
        }
    }

    /** Draws calls; what a run is mostly made of differs from seed to seed. */
    private static final class Draw {
        private static final String[] NAMES = {"entry", "water", "yarn", "apart", "bath", "freshen", "strength",
            "order", "place", "dye", "claim", "stateOf", "colour", "colourByBath", "blamed", "shrinks", "give",
            "owes", "position", "net"};
        private static final int[] COLOURING = {1, 6, 6, 1, 3, 5, 5, 14, 9, 9, 9, 4, 6, 6, 4, 0, 0, 0, 0, 0};
        private static final int[] TRADING = {0, 0, 0, 0, 0, 0, 0, 0, 0, 0, 0, 0, 0, 0, 0, 2, 60, 9, 9, 3};
        private static final int[] ALL = {2, 3, 3, 1, 2, 2, 2, 6, 5, 5, 4, 2, 3, 3, 2, 2, 9, 3, 3, 2};

        private final Random random;
        private final int[] weights;
        private final int books;
        private final int people;
        private final int wrongShare;
        private int entriesAhead;

        Draw(int seed) {
            random = new Random(seed * 7919L + 17);
            weights = seed % 3 == 0 ? COLOURING : seed % 3 == 1 ? TRADING : ALL;
            books = seed % 4 == 0 ? 12 : 1 + random.nextInt(4);
            entriesAhead = weights == TRADING ? 0 : books;
            people = seed % 2 == 0 ? 2 : 5;
            wrongShare = seed % 5 == 0 ? 8 : 60;
        }

        int[] call() {
            int kind = entriesAhead > 0 ? 0 : kind();
            entriesAhead = Math.max(0, entriesAhead - 1);
            switch (kind) {
                case 0: return args(kind, value(0, 60), value(0, 60), value(0, 20));
                case 1: return args(kind, value(0, 2), value(-10, 10));
                case 2: return args(kind, value(0, 3), value(-10, 10), value(-10, 10));
                case 3: return args(kind, value(0, books), value(0, books));
                case 4: return args(kind, value(0, 2), value(0, books - 1));
                case 5: case 6: return args(kind, value(0, 9));
                case 7: return args(kind, value(0, books - 1), value(1, 40), value(0, 3));
                case 8: case 10: case 11: return args(kind, value(0, 39));
                case 9: return args(kind, value(0, 39), value(0, 9));
                case 12: case 13: return args(kind, value(0, 39), value(0, 1));
                case 14: return args(kind, value(0, 2), value(0, 2));
                case 15: return args(kind, value(0, 2), random.nextInt(3) > 0 ? 0 : value(0, 90));
                case 16: return args(kind, value(0, people - 1), value(0, people - 1), cloth(), length());
                case 17: return args(kind, value(0, 4), value(0, 4), cloth());
                case 18: return args(kind, value(0, 4), cloth());
                default: return args(kind, cloth());
            }
        }

        private int kind() {
            int all = 0;
            for (int weight : weights) {
                all += weight;
            }
            int drawn = random.nextInt(all);
            int kind = 0;
            while (drawn >= weights[kind]) {
                drawn -= weights[kind];
                kind++;
            }
            return kind;
        }

        private int cloth() {
            return random.nextInt(8) > 0 ? 0 : value(0, 2);
        }

        private int length() {
            return random.nextInt(3) > 0 ? 1000 : value(1, 1000);
        }

        private int value(int least, int most) {
            if (random.nextInt(wrongShare) == 0) {
                int[] odd = {least - 1, most + 1, -1, Integer.MIN_VALUE, Integer.MAX_VALUE, random.nextInt()};
                return odd[random.nextInt(odd.length)];
            }
            return least + random.nextInt(most - least + 1);
        }

        private static int[] args(int... values) {
            return values;
        }

        static String text(int[] call) {
            StringBuilder out = new StringBuilder(NAMES[call[0]]);
            for (int i = 1; i < call.length; i++) {
                out.append(i == 1 ? "(" : ", ").append(call[i]);
            }
            return out.append(")").toString();
        }

        static int on(DyeRing ring, int[] c) {
            switch (c[0]) {
                case 0: return ring.entry(c[1], c[2], c[3]);
                case 1: return ring.water(c[1], c[2]);
                case 2: return ring.yarn(c[1], c[2], c[3]);
                case 3: return ring.apart(c[1], c[2]);
                case 4: return ring.bath(c[1], c[2]);
                case 5: return ring.freshen(c[1]);
                case 6: return ring.strength(c[1]);
                case 7: return ring.order(c[1], c[2], c[3]);
                case 8: return ring.place(c[1]);
                case 9: return ring.dye(c[1], c[2]);
                case 10: return ring.claim(c[1]);
                case 11: return ring.stateOf(c[1]);
                case 12: return ring.colour(c[1], c[2]);
                case 13: return ring.colourByBath(c[1], c[2]);
                case 14: return ring.blamed(c[1], c[2]);
                case 15: return ring.shrinks(c[1], c[2]);
                case 16: return ring.give(c[1], c[2], c[3], c[4]);
                case 17: return ring.owes(c[1], c[2], c[3]);
                case 18: return ring.position(c[1], c[2]);
                default: return ring.net(c[1]);
            }
        }
    }

    /** What the model throws, with the name of the exception that is due. */
    private static final class Refusal extends RuntimeException {
        private static final long serialVersionUID = 1;

        Refusal(Class<? extends RuntimeException> due) {
            super(due.getName());
        }
    }

    /** Keeps the calls that were answered, in their order, and finds each answer by going through them again. */
    private static final class Model {
        /** What has happened: the call, and of a piece also its order and bath. */
        private static final class Event {
            final int[] call;
            final int order;
            final int bath;

            Event(int[] call, int order, int bath) {
                this.call = call;
                this.order = order;
                this.bath = bath;
            }

            boolean is(int kind) {
                return call[0] == kind;
            }

            boolean dyes() {
                return is(8) || is(9);
            }
        }

        private final List<Event> past = new ArrayList<>();
        private final int[][][] owed = new int[3][5][5];

        int answer(int[] c) {
            int answer = found(c);
            boolean dyes = c[0] == 8 || c[0] == 9;
            past.add(new Event(c, dyes ? c[1] : -1, c[0] == 8 ? answer : c[0] == 9 ? c[2] : -1));
            return c[0] == 9 ? distance(c[1], colourOf(c[1])) : answer;
        }

        private int found(int[] c) {
            switch (c[0]) {
                case 0: return entry(c);
                case 1: return shift(c, 3, 2);
                case 2: return shift(c, 4, 2);
                case 3: return apart(c[1], c[2]);
                case 4: return bath(c);
                case 5: case 6: index(c[1], count(4)); return strengthBefore(c[1], past.size());
                case 7: return order(c);
                case 8: return place(c[1]);
                case 9: return dye(c[1], c[2]);
                case 10: return claim(c[1]);
                case 11: index(c[1], count(7)); return happened(10, c[1]) ? 2 : dyeing(c[1]) >= 0 ? 1 : 0;
                case 12: case 13: return colour(c[1], c[2]);
                case 14: return blamed(c[1], c[2]);
                case 15: return shrinks(c);
                case 16: return give(c);
                case 17: index(c[1], 5); index(c[2], 5); index(c[3], 3); return owed[c[3]][c[1]][c[2]];
                case 18: index(c[1], 5); index(c[2], 3); return position(c[1], c[2]);
                default: index(c[1], 3); return net(owed[c[1]]);
            }
        }

        // ---- what is asked of a call

        private static void index(int index, int count) {
            if (index < 0 || index > count - 1) {
                throw new Refusal(IndexOutOfBoundsException.class);
            }
        }

        private static void argument(boolean good) {
            if (!good) {
                throw new Refusal(IllegalArgumentException.class);
            }
        }

        private static void state(boolean good) {
            if (!good) {
                throw new Refusal(IllegalStateException.class);
            }
        }

        private static boolean within(int value, int least, int most) {
            return least <= value && value <= most;
        }

        // ---- what the past tells

        private int count(int kind) {
            int count = 0;
            for (Event event : past) {
                count += event.is(kind) ? 1 : 0;
            }
            return count;
        }

        /** The number-th call of a kind that was answered. */
        private int[] made(int kind, int number) {
            int at = 0;
            for (Event event : past) {
                if (event.is(kind) && at++ == number) {
                    return event.call;
                }
            }
            throw new AssertionError("nothing of this number was made");
        }

        private boolean happened(int kind, int number) {
            return past.stream().anyMatch(event -> event.is(kind) && event.call[1] == number);
        }

        /** The value at a place of the last call of a kind for a number, up to a time; 0 if there was none. */
        private int last(int kind, int number, int place, int time) {
            int value = 0;
            for (Event event : past.subList(0, time)) {
                if (event.is(kind) && event.call[1] == number) {
                    value = event.call[place];
                }
            }
            return value;
        }

        private int strengthBefore(int bath, int time) {
            int strength = 100;
            for (Event event : past.subList(0, time)) {
                if (event.is(5) && event.call[1] == bath) {
                    strength = 100;
                }
                if (event.dyes() && event.bath == bath) {
                    strength -= made(7, event.order)[2];
                    strength = strength < 0 ? 0 : strength;
                }
            }
            return strength;
        }

        /** When an order was dyed, or -1. */
        private int dyeing(int order) {
            for (int time = 0; time < past.size(); time++) {
                if (past.get(time).dyes() && past.get(time).order == order) {
                    return time;
                }
            }
            return -1;
        }

        // ---- colours; the parts are strength, water and the yarn's two shifts

        private int[] parts(int order, int bath, int time) {
            int yarn = made(7, order)[3];
            return new int[] {strengthBefore(bath, time), last(1, made(4, bath)[1], 2, time),
                last(2, yarn, 2, time), last(2, yarn, 3, time)};
        }

        private int[] mix(int order, int[] parts) {
            int[] entry = made(0, made(7, order)[1]);
            return new int[] {Math.floorDiv(entry[1] * parts[0], 100) + parts[2] + parts[1],
                Math.floorDiv(entry[2] * parts[0], 100) + parts[3]};
        }

        private int distance(int order, int[] colour) {
            int[] entry = made(0, made(7, order)[1]);
            return Math.max(entry[1], colour[0]) - Math.min(entry[1], colour[0])
                    + Math.max(entry[2], colour[1]) - Math.min(entry[2], colour[1]);
        }

        private int[] partsOf(int order) {
            int time = dyeing(order);
            return parts(order, past.get(time).bath, time);
        }

        private int[] colourOf(int order) {
            return mix(order, partsOf(order));
        }

        private int tolerance(int order) {
            return made(0, made(7, order)[1])[3];
        }

        private int blameOf(int order) {
            int best = -1;
            int least = Integer.MAX_VALUE;
            for (int blame = 0; blame < 3; blame++) {
                int[] parts = partsOf(order);
                if (blame == 0) {
                    parts[0] = 100;
                } else if (blame == 1) {
                    parts[1] = 0;
                } else {
                    parts[2] = 0;
                    parts[3] = 0;
                }
                int distance = distance(order, mix(order, parts));
                if (distance < least) {
                    least = distance;
                    best = blame;
                }
            }
            return best;
        }

        // ---- the calls

        private int entry(int[] c) {
            argument(within(c[1], 0, 60) && within(c[2], 0, 60) && within(c[3], 0, 20));
            state(count(0) < 12);
            return count(0);
        }

        private int shift(int[] c, int count, int place) {
            index(c[1], count);
            for (int i = place; i < c.length; i++) {
                argument(within(c[i], -10, 10));
            }
            return last(c[0], c[1], place, past.size());
        }

        private int apart(int entry, int other) {
            index(entry, count(0));
            index(other, count(0));
            int[] a = made(0, entry);
            int[] b = made(0, other);
            return Math.abs(a[1] - b[1]) + Math.abs(a[2] - b[2]);
        }

        private int bath(int[] c) {
            index(c[1], 3);
            index(c[2], count(0));
            state(count(4) < 10);
            return count(4);
        }

        private int order(int[] c) {
            index(c[1], count(0));
            index(c[3], 4);
            argument(within(c[2], 1, 40));
            state(count(7) < 40);
            return count(7);
        }

        private int place(int order) {
            index(order, count(7));
            state(dyeing(order) < 0);
            for (int strength = 0; strength <= 100; strength++) {
                for (int bath = 0; bath < count(4); bath++) {
                    int[] parts = parts(order, bath, past.size());
                    if (parts[0] == strength && made(4, bath)[2] == made(7, order)[1]
                            && distance(order, mix(order, parts)) <= tolerance(order)) {
                        return bath;
                    }
                }
            }
            throw new Refusal(NoSuchElementException.class);
        }

        private int dye(int order, int bath) {
            index(order, count(7));
            index(bath, count(4));
            argument(made(4, bath)[2] == made(7, order)[1]);
            state(dyeing(order) < 0);
            return 0; // answer() finds the distance from the piece itself
        }

        private int claim(int order) {
            index(order, count(7));
            state(dyeing(order) >= 0 && !happened(10, order));
            state(distance(order, colourOf(order)) > tolerance(order));
            return blameOf(order);
        }

        private int colour(int order, int axis) {
            index(order, count(7));
            index(axis, 2);
            state(dyeing(order) >= 0);
            return colourOf(order)[axis];
        }

        private int blamed(int dyer, int blame) {
            index(dyer, 3);
            argument(within(blame, 0, 2));
            int pieces = 0;
            for (Event event : past) {
                if (event.is(10)) {
                    int order = event.call[1];
                    int bath = past.get(dyeing(order)).bath;
                    pieces += made(4, bath)[1] == dyer && blameOf(order) == blame ? 1 : 0;
                }
            }
            return pieces;
        }

        // ---- cloth

        private int shrinks(int[] c) {
            index(c[1], 3);
            argument(within(c[2], 0, 90));
            return last(15, c[1], 2, past.size());
        }

        private int give(int[] c) {
            index(c[1], 5);
            index(c[2], 5);
            index(c[3], 3);
            argument(c[1] != c[2] && within(c[4], 1, 1000));
            int shrinkage = last(15, c[3], 2, past.size());
            // less what is rounded up is the rest rounded down
            int debt = owed[c[3]][c[2]][c[1]] + Math.floorDiv(c[4] * (100 - shrinkage), 100);
            state(debt <= 100000);
            owed[c[3]][c[2]][c[1]] = debt;
            return debt;
        }

        private int position(int person, int cloth) {
            int position = 0;
            for (int i = 0; i < 25; i++) {
                position += i % 5 == person ? owed[cloth][i / 5][i % 5] : 0;
                position -= i / 5 == person ? owed[cloth][i / 5][i % 5] : 0;
            }
            return position;
        }

        /** One unit of length after the other, which comes to the same debts. */
        private static int net(int[][] debts) {
            int[] open = new int[5];
            for (int i = 0; i < 25; i++) {
                open[i % 5] += debts[i / 5][i % 5];
                open[i / 5] -= debts[i / 5][i % 5];
                debts[i / 5][i % 5] = 0;
            }
            int debtor = 0;
            int creditor = 0;
            while (true) {
                while (debtor < 5 && open[debtor] >= 0) {
                    debtor++;
                }
                while (creditor < 5 && open[creditor] <= 0) {
                    creditor++;
                }
                if (debtor == 5 || creditor == 5) {
                    break;
                }
                open[debtor]++;
                open[creditor]--;
                debts[debtor][creditor]++;
            }
            int count = 0;
            for (int i = 0; i < 25; i++) {
                count += debts[i / 5][i % 5] > 0 ? 1 : 0;
            }
            return count;
        }
    }
}
