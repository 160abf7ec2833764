/** 'What it is': an object is used for at most 512 calls, so the 512th answers as the first. */
final class LastCallSentences {
    private static final int CALLS = 512;
    private static final int CALLS_OF_USED = 22;

    private LastCallSentences() {
    }

    static void addTo(Sentences s) {
        s.add(0, "An object is used for at most 512 calls: each call as the 512th", c -> {
            last(c, 2, "entry", r -> r.entry(1, 1, 1));
            last(c, 7, "water", r -> r.water(0, 0));
            last(c, 2, "yarn", r -> r.yarn(1, 0, 0));
            last(c, 40, "apart", r -> r.apart(0, 1));
            last(c, 2, "bath", r -> r.bath(2, 1));
            last(c, 60, "freshen", r -> r.freshen(1));
            last(c, 60, "strength", r -> r.strength(1));
            last(c, 5, "order", r -> r.order(1, 1, 0));
            // the bath 0, of the strength 60, gives (30, 18), and its water 7: (37, 18) against (50, 30)
            last(c, 25, "dye", r -> r.dye(4, 0));
            last(c, 2, "claim", r -> r.claim(3));
            last(c, 2, "stateOf", r -> r.stateOf(2));
            last(c, 59, "colour", r -> r.colour(2, 0));
            last(c, 59, "colourByBath", r -> r.colourByBath(2, 0));
            last(c, 1, "blamed", r -> r.blamed(0, 1));
            last(c, 7, "shrinks", r -> r.shrinks(0, 0));
            last(c, 940, "give", r -> r.give(0, 1, 0, 11));
            last(c, 930, "owes", r -> r.owes(1, 0, 0));
            last(c, -621, "position", r -> r.position(1, 0));
            last(c, 2, "net", r -> r.net(0));
        });
        s.add(0, "An object is used for at most 512 calls: of the same sort", c -> {
            repeats(c, 60, "strength", r -> r.strength(1));
            repeats(c, 59, "colourByBath", r -> r.colourByBath(2, 0));
            repeats(c, 38, "colour", r -> r.colour(3, 0));
            repeats(c, -309, "position", r -> r.position(2, 0));
            repeats(c, 2, "net", r -> r.net(0));
            DyeRing ring = new DyeRing();
            for (int i = 0; i < CALLS; i++) {
                int call = i;
                c.answers(ring, 1000 * (call / 6 + 1), "give " + call,
                        r -> r.give(0, 1 + call % 2, call / 2 % 3, 1000));
            }
        });
        s.add(0, "An object is used for at most 512 calls: as many refused ones", c -> {
            DyeRing ring = Rings.usedWithOtherBaths();
            for (int i = CALLS_OF_USED + 3; i < CALLS - 2; i += 5) {
                c.fails(ring, Due.NO_ELEMENT, "place(0)", r -> r.place(0));
                c.fails(ring, Due.STATE, "claim(2)", r -> r.claim(2));
                c.fails(ring, Due.ARGUMENT, "dye(3, 2)", r -> r.dye(3, 2));
                c.fails(ring, Due.INDEX, "give(0, 1, 3, 0)", r -> r.give(0, 1, 3, 0));
                c.fails(ring, Due.ARGUMENT, "entry(0, 0, 21)", r -> r.entry(0, 0, 21));
            }
            ring.water(0, 0);
            c.answers(ring, 2, "place(1) as the 512th call", r -> r.place(1));
        });
        s.add(0, "An object is used for at most 512 calls: a bath made fresh by most of them", c -> {
            DyeRing ring = new DyeRing();
            ring.entry(50, 30, 20);
            ring.bath(0, 0);
            for (int piece = 0; piece < 40; piece++) {
                ring.dye(ring.order(0, 7, 0), 0);
                for (int time = 0; time < 9 && piece % 2 == 1; time++) {
                    ring.freshen(0);
                }
            }
            // 2 and 40 * 2 and 20 * 9 calls are made; 2 * 40 and more are left
            for (int i = 0; i < 40; i++) {
                int piece = i;
                int strength = piece % 2 == 1 ? 93 : 100;
                c.answers(ring, 50 * strength / 100, "colourByBath", r -> r.colourByBath(piece, 0));
                c.answers(ring, 30 * strength / 100, "colourByBath", r -> r.colourByBath(piece, 1));
            }
        });
    }

    /** Calls between that change nothing bring the ring to its 512th call. */
    private static void last(Checks c, int due, String what, Checks.Call call) {
        DyeRing ring = Rings.used();
        for (int i = CALLS_OF_USED; i < CALLS - 1; i++) {
            ring.shrinks(2, 0);
        }
        c.answers(ring, due, what + " as the 512th call", call);
    }

    private static void repeats(Checks c, int due, String what, Checks.Call call) {
        DyeRing ring = Rings.used();
        for (int i = CALLS_OF_USED; i < CALLS; i++) {
            c.answers(ring, due, what, call);
        }
    }
}
