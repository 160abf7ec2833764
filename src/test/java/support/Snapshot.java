/** All that the calls of the face tell of a ring; shifts and shrinkages are set and set back for it. */
final class Snapshot {
    private Snapshot() {
    }

    static String of(DyeRing ring) {
        StringBuilder out = new StringBuilder();
        shifts(ring, out);
        book(ring, out);
        baths(ring, out);
        orders(ring, out);
        cloths(ring, out);
        return out.toString();
    }

    private static void shifts(DyeRing ring, StringBuilder out) {
        for (int dyer = 0; dyer < 3; dyer++) {
            int shift = ring.water(dyer, 0);
            ring.water(dyer, shift);
            out.append(" water ").append(shift);
            for (int blame = 0; blame < 3; blame++) {
                out.append(" blamed ").append(ring.blamed(dyer, blame));
            }
        }
    }

    private static void book(DyeRing ring, StringBuilder out) {
        for (int entry = 0; ; entry++) {
            int last = entry;
            String apart = Checks.outcome(ring, r -> r.apart(0, last));
            if (apart.startsWith("throws.")) {
                out.append(" entries ").append(entry);
                return;
            }
            out.append(" apart ").append(apart);
        }
    }

    private static void baths(DyeRing ring, StringBuilder out) {
        for (int bath = 0; ; bath++) {
            int last = bath;
            String strength = Checks.outcome(ring, r -> r.strength(last));
            if (strength.startsWith("throws.")) {
                out.append(" baths ").append(bath);
                return;
            }
            out.append(" strength ").append(strength);
        }
    }

    private static void orders(DyeRing ring, StringBuilder out) {
        for (int order = 0; ; order++) {
            int last = order;
            String state = Checks.outcome(ring, r -> r.stateOf(last));
            if (state.startsWith("throws.")) {
                out.append(" orders ").append(order);
                return;
            }
            out.append(" state ").append(state);
            if (!state.equals("0")) {
                out.append(" colour ").append(ring.colour(order, 0)).append(' ').append(ring.colour(order, 1));
                out.append(" by bath ").append(ring.colourByBath(order, 0)).append(' ')
                        .append(ring.colourByBath(order, 1));
            }
        }
    }

    private static void cloths(DyeRing ring, StringBuilder out) {
        for (int cloth = 0; cloth < 3; cloth++) {
            int shrinkage = ring.shrinks(cloth, 0);
            ring.shrinks(cloth, shrinkage);
            out.append(" shrinks ").append(shrinkage);
            for (int person = 0; person < 5; person++) {
                out.append(" position ").append(ring.position(person, cloth));
                for (int other = 0; other < 5; other++) {
                    out.append(" owes ").append(ring.owes(person, other, cloth));
                }
            }
        }
    }
}
