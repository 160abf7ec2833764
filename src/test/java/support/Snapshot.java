/**
 * All that the calls of the face tell of a ring, in parts: each part uses the ring up, and needs few enough
 * calls that a ring of at most a hundred and some calls stays within its 512.
 */
final class Snapshot {
    static final int PARTS = 4;

    private Snapshot() {
    }

    static String of(DyeRing ring, int part) {
        StringBuilder out = new StringBuilder();
        switch (part) {
            case 0:
                baths(ring, out);
                orders(ring, out);
                break;
            case 1:
                cloths(ring, out);
                break;
            case 2:
                waitingOrders(ring, out);
                break;
            default:
                newPieces(ring, out);
                book(ring, out);
                shifts(ring, out);
        }
        return out.toString();
    }

    private static void put(StringBuilder out, String name, DyeRing ring, Checks.Call call) {
        out.append(' ').append(name).append(' ').append(Checks.outcome(ring, call));
    }

    private static int count(DyeRing ring, Checks.OpenCall call) {
        int count = 0;
        while (count < 100 && isAnswered(ring, call, count)) {
            count++;
        }
        return count;
    }

    private static boolean isAnswered(DyeRing ring, Checks.OpenCall call, int value) {
        return !Checks.outcome(ring, r -> call.on(r, value)).startsWith("throws.");
    }

    private static void baths(DyeRing ring, StringBuilder out) {
        int count = count(ring, DyeRing::strength);
        out.append("baths ").append(count);
        for (int i = 0; i < count; i++) {
            int bath = i;
            put(out, "strength", ring, r -> r.strength(bath));
        }
    }

    private static void orders(DyeRing ring, StringBuilder out) {
        int count = count(ring, DyeRing::stateOf);
        out.append(" orders ").append(count);
        for (int i = 0; i < count; i++) {
            int order = i;
            put(out, "state", ring, r -> r.stateOf(order));
            put(out, "colour", ring, r -> r.colour(order, 0));
            put(out, "colour", ring, r -> r.colour(order, 1));
            put(out, "by bath", ring, r -> r.colourByBath(order, 0));
            put(out, "by bath", ring, r -> r.colourByBath(order, 1));
        }
        for (int i = 0; i < 9; i++) {
            int pair = i;
            put(out, "blamed", ring, r -> r.blamed(pair / 3, pair % 3));
        }
    }

    private static void cloths(DyeRing ring, StringBuilder out) {
        for (int i = 0; i < 3; i++) {
            int cloth = i;
            for (int j = 0; j < 25; j++) {
                int pair = j;
                put(out, "owes", ring, r -> r.owes(pair / 5, pair % 5, cloth));
            }
            for (int j = 0; j < 5; j++) {
                int person = j;
                put(out, "position", ring, r -> r.position(person, cloth));
            }
            put(out, "shrinks", ring, r -> r.shrinks(cloth, 0));
            put(out, "net", ring, r -> r.net(cloth));
        }
    }

    /** Weights, yarns and tolerances show only when the orders are dyed and claimed. */
    private static void waitingOrders(DyeRing ring, StringBuilder out) {
        int orders = count(ring, DyeRing::stateOf);
        int baths = count(ring, DyeRing::strength);
        for (int i = 0; i < orders; i++) {
            int order = i;
            String place = Checks.outcome(ring, r -> r.place(order));
            out.append(" place ").append(place);
            if (place.equals(Due.NO_ELEMENT.outcome)) {
                out.append(" dye ").append(dyedSomewhere(ring, order, baths));
            }
            put(out, "claim", ring, r -> r.claim(order));
        }
        for (int i = 0; i < baths; i++) {
            int bath = i;
            put(out, "strength", ring, r -> r.strength(bath));
        }
    }

    /** The answer of the first bath that takes the order. */
    private static String dyedSomewhere(DyeRing ring, int order, int baths) {
        String answer = "";
        for (int i = 0; i < baths; i++) {
            int bath = i;
            answer = Checks.outcome(ring, r -> r.dye(order, bath));
            if (!answer.startsWith("throws.")) {
                return answer;
            }
        }
        return answer;
    }

    /** The yarns' shifts on the axis 1 show only in a piece. */
    private static void newPieces(DyeRing ring, StringBuilder out) {
        for (int i = 0; i < 4; i++) {
            int yarn = i;
            put(out, "bath", ring, r -> r.bath(yarn % 3, 0));
            String order = Checks.outcome(ring, r -> r.order(0, 1, yarn));
            out.append(" order ").append(order);
            if (!order.startsWith("throws.")) {
                int number = Integer.parseInt(order);
                put(out, "dye", ring, r -> r.dye(number, 0));
                put(out, "colour", ring, r -> r.colour(number, 0));
                put(out, "colour", ring, r -> r.colour(number, 1));
                put(out, "claim", ring, r -> r.claim(number));
            }
        }
    }

    private static void book(DyeRing ring, StringBuilder out) {
        int count = count(ring, (r, entry) -> r.apart(0, entry));
        out.append(" entries ").append(count);
        for (int i = 0; i < count * count; i++) {
            int pair = i;
            put(out, "apart", ring, r -> r.apart(pair / count, pair % count));
        }
        put(out, "entry", ring, r -> r.entry(0, 0, 0));
    }

    private static void shifts(DyeRing ring, StringBuilder out) {
        for (int i = 0; i < 4; i++) {
            int number = i;
            put(out, "water", ring, r -> r.water(number, 0));
            put(out, "yarn", ring, r -> r.yarn(number, 0, 0));
        }
    }
}
