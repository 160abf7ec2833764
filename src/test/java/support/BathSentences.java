/** Boundary cases of the promises 6 to 11: baths and orders. */
final class BathSentences {
    private BathSentences() {
    }

    static void addTo(Sentences s) {
        bath(s);
        freshen(s);
        strength(s);
        orderRanges(s);
        orderLimit(s);
        placeRefuses(s);
        placeTolerance(s);
        placeChooses(s);
        dyeRefuses(s);
        dyeAnswers(s);
    }

    /** One entry, and baths of it with these strengths, of the dyers 0, 1, 2, 0, .. */
    private static DyeRing baths(int tolerance, int... strengths) {
        DyeRing ring = new DyeRing();
        ring.entry(10, 0, tolerance);
        for (int i = 0; i < strengths.length; i++) {
            ring.bath(i % 3, 0);
            Rings.weaken(ring, 0, i, 100 - strengths[i]);
        }
        return ring;
    }

    // ---- promise 6

    private static void bath(Sentences s) {
        s.range(6, "dyer: 0 to 2", Rings::used, 0, 2, Due.INDEX, (r, v) -> r.bath(v, 0));
        s.add(6, "entry: Throws IndexOutOfBoundsException if there is no such entry", c -> {
            c.range(DyeRing::new, 0, -1, Due.INDEX, "entry of none", (r, v) -> r.bath(0, v));
            c.range(Rings::used, 0, 1, Due.INDEX, "entry of two", (r, v) -> r.bath(0, v));
            c.range(Rings::fullBook, 0, 11, Due.INDEX, "entry of twelve", (r, v) -> r.bath(2, v));
        });
        s.add(6, "Baths are numbered from 0", c -> {
            DyeRing ring = Rings.fullBook();
            for (int number = 0; number < 10; number++) {
                int bath = number;
                c.fails(ring, Due.INDEX, "strength ahead of the bath", r -> r.strength(bath));
                c.answers(ring, bath, "the next bath", r -> r.bath(bath % 3, 11 - bath));
                c.answers(ring, 100, "strength of the fresh bath", r -> r.strength(bath));
            }
        });
        s.add(6, "Throws IllegalStateException if there are 10", c -> {
            DyeRing nine = new DyeRing();
            nine.entry(50, 30, 6);
            for (int i = 0; i < 9; i++) {
                nine.bath(0, 0);
            }
            c.answers(nine, 9, "a tenth bath", r -> r.bath(0, 0));
            c.fails(nine, Due.STATE, "an eleventh bath", r -> r.bath(0, 0));
            c.refuses(() -> Rings.waiting(5), Due.STATE, "an eleventh bath", r -> r.bath(2, 0));
            c.refuses(Rings::full, Due.STATE, "an eleventh bath", r -> r.bath(0, 11));
        });
        s.add(6, "bath: IndexOutOfBoundsException before IllegalStateException", c -> {
            int[][] wrong = {{-1, 0}, {3, 0}, {0, -1}, {0, 12}, {3, 12}};
            for (int[] w : wrong) {
                c.refuses(Rings::full, Due.INDEX, "a wrong eleventh bath", r -> r.bath(w[0], w[1]));
            }
        });
        s.add(6, "a refused bath takes no number", c -> {
            DyeRing ring = Rings.fullBook();
            for (int number = 0; number < 10; number++) {
                c.fails(ring, Due.INDEX, "bath(3, 0)", r -> r.bath(3, 0));
                c.fails(ring, Due.INDEX, "bath(0, 12)", r -> r.bath(0, 12));
                c.answers(ring, number, "the next bath", r -> r.bath(0, 0));
            }
        });
        s.add(6, "a bath is of a dyer, for an entry", c -> {
            for (int i = 0; i < 36; i++) {
                int dyer = i % 3;
                int entry = i / 3;
                DyeRing ring = Rings.fullBook();
                ring.bath(dyer, entry);
                ring.water(dyer, 9);
                ring.order(entry, 1, 0);
                ring.order((entry + 1) % 12, 1, 0);
                c.fails(ring, Due.ARGUMENT, "dye another entry's order", r -> r.dye(1, 0));
                c.answers(ring, 9, "dye the entry's order", r -> r.dye(0, 0));
                c.answers(ring, 5 * entry + 9, "its axis 0", r -> r.colour(0, 0));
                c.answers(ring, 60 - 5 * entry, "its axis 1", r -> r.colour(0, 1));
            }
        });
    }

    // ---- promise 7

    private static void freshen(Sentences s) {
        s.add(7, "bath: Throws IndexOutOfBoundsException if there is no such bath", c -> {
            c.range(Rings::fullBook, 0, -1, Due.INDEX, "freshen of none", DyeRing::freshen);
            c.range(Rings::used, 0, 1, Due.INDEX, "freshen of two", DyeRing::freshen);
            c.range(Rings::full, 0, 9, Due.INDEX, "freshen of ten", DyeRing::freshen);
        });
        s.add(7, "Returns its strength before; fresh it is 100", c -> {
            for (int i = 0; i <= 100; i++) {
                int strength = i;
                DyeRing ring = baths(0, strength);
                c.answers(ring, strength, "freshen", r -> r.freshen(0));
                c.answers(ring, 100, "strength then", r -> r.strength(0));
                c.answers(ring, 100, "freshen again", r -> r.freshen(0));
                c.answers(ring, 100, "strength then", r -> r.strength(0));
            }
        });
        s.add(7, "freshen makes this bath alone fresh", c -> {
            for (int i = 0; i < 10; i++) {
                int fresh = i;
                DyeRing ring = baths(0, 99, 98, 97, 96, 95, 94, 93, 92, 91, 90);
                ring.freshen(fresh);
                for (int j = 0; j < 10; j++) {
                    int bath = j;
                    c.answers(ring, bath == fresh ? 100 : 99 - bath, "strength", r -> r.strength(bath));
                }
            }
        });
    }

    // ---- promise 8

    private static void strength(Sentences s) {
        s.add(8, "bath: Throws IndexOutOfBoundsException if there is no such bath", c -> {
            c.range(Rings::fullBook, 0, -1, Due.INDEX, "strength of none", DyeRing::strength);
            c.range(Rings::used, 0, 1, Due.INDEX, "strength of two", DyeRing::strength);
            c.range(Rings::full, 0, 9, Due.INDEX, "strength of ten", DyeRing::strength);
        });
        s.add(8, "the strength becomes less by the weight, at least 0", c -> {
            for (int i = 0; i <= 100; i++) {
                int strength = i;
                for (int weight = 1; weight <= 40; weight++) {
                    DyeRing ring = baths(0, strength);
                    ring.dye(ring.order(0, weight, 0), 0);
                    int left = strength > weight ? strength - weight : 0;
                    c.answers(ring, left, strength + " less " + weight, r -> r.strength(0));
                }
            }
        });
        s.add(8, "a strength of 0 stays 0", c -> {
            DyeRing ring = baths(0, 0);
            for (int i = 0; i < 30; i++) {
                int order = ring.order(0, 40, 0);
                c.answers(ring, 10, "dye without strength", r -> r.dye(order, 0));
                c.answers(ring, 0, "strength", r -> r.strength(0));
            }
        });
        s.add(8, "Returns 0 to 100", c -> {
            DyeRing ring = new DyeRing();
            ring.entry(10, 0, 20);
            ring.bath(2, 0);
            for (int i = 0; i < 40; i++) {
                int left = 100 - 3 * i > 0 ? 100 - 3 * i : 0;
                c.answers(ring, left, "strength", r -> r.strength(0));
                int order = ring.order(0, 3, 0);
                c.answers(ring, left, "an order alone takes nothing", r -> r.strength(0));
                ring.dye(order, 0);
            }
            c.answers(ring, 0, "strength after all", r -> r.strength(0));
        });
        s.add(8, "refused orders take no strength", c -> {
            DyeRing ring = Rings.usedWithOtherBaths();
            c.fails(ring, Due.ARGUMENT, "dye(0, 2)", r -> r.dye(0, 2));
            c.fails(ring, Due.STATE, "dye(2, 0)", r -> r.dye(2, 0));
            c.fails(ring, Due.STATE, "place(3)", r -> r.place(3));
            c.fails(ring, Due.NO_ELEMENT, "place(0)", r -> r.place(0));
            int[] strengths = {60, 60, 100, 100};
            for (int i = 0; i < 4; i++) {
                int bath = i;
                c.answers(ring, strengths[bath], "strength", r -> r.strength(bath));
            }
        });
    }

    // ---- promise 9

    private static void orderRanges(Sentences s) {
        s.add(9, "entry: Throws IndexOutOfBoundsException if there is no such entry", c -> {
            c.range(DyeRing::new, 0, -1, Due.INDEX, "entry of none", (r, v) -> r.order(v, 1, 0));
            c.range(Rings::used, 0, 1, Due.INDEX, "entry of two", (r, v) -> r.order(v, 1, 0));
            c.range(Rings::fullBook, 0, 11, Due.INDEX, "entry of twelve", (r, v) -> r.order(v, 40, 3));
        });
        s.range(9, "weight: 1 to 40", Rings::used, 1, 40, Due.ARGUMENT, (r, v) -> r.order(0, v, 0));
        s.range(9, "yarn: 0 to 3", Rings::used, 0, 3, Due.INDEX, (r, v) -> r.order(0, 1, v));
        s.add(9, "an order keeps its entry, weight and yarn", c -> {
            for (int i = 0; i < 160; i++) {
                int weight = i / 4 + 1;
                int yarn = i % 4;
                DyeRing ring = Rings.fullBook();
                ring.bath(0, i % 12);
                ring.yarn(yarn, 7, -7);
                ring.order(i % 12, weight, yarn);
                c.answers(ring, 14, "dye in its entry's bath", r -> r.dye(0, 0));
                c.answers(ring, 100 - weight, "strength", r -> r.strength(0));
            }
        });
    }

    private static void orderLimit(Sentences s) {
        s.add(9, "Orders are numbered from 0, and WAITING", c -> {
            DyeRing ring = Rings.fullBook();
            for (int number = 0; number < 40; number++) {
                int order = number;
                c.fails(ring, Due.INDEX, "stateOf ahead of the order", r -> r.stateOf(order));
                c.answers(ring, order, "the next order", r -> r.order(order % 12, order + 1, order % 4));
                c.answers(ring, DyeRing.WAITING, "stateOf", r -> r.stateOf(order));
            }
        });
        s.add(9, "Throws IllegalStateException if there are 40", c -> {
            DyeRing ring = Rings.waiting(39);
            c.answers(ring, 39, "a fortieth order", r -> r.order(0, 1, 0));
            c.fails(ring, Due.STATE, "a forty-first order", r -> r.order(0, 1, 0));
            c.refuses(() -> Rings.waiting(40), Due.STATE, "a forty-first order", r -> r.order(0, 40, 3));
            c.refuses(() -> Rings.offPieces(40), Due.STATE, "one more than 40 pieces", r -> r.order(0, 1, 0));
            c.refuses(Rings::full, Due.STATE, "a forty-first order", r -> r.order(11, 1, 1));
        });
        s.add(9, "order: IndexOutOfBoundsException before IllegalArgumentException", c -> {
            int[][] wrong = {{-1, 0, 0}, {2, 41, 0}, {0, 0, -1}, {0, 41, 4}, {2, 0, 4}};
            for (int[] w : wrong) {
                c.refuses(Rings::used, Due.INDEX, "no number and no weight", r -> r.order(w[0], w[1], w[2]));
            }
        });
        s.add(9, "order: IndexOutOfBoundsException before IllegalStateException", c -> {
            int[][] wrong = {{-1, 1, 0}, {12, 1, 0}, {0, 1, -1}, {0, 1, 4}, {12, 41, 4}, {0, 0, 4}, {12, 0, 0}};
            for (int[] w : wrong) {
                c.refuses(Rings::full, Due.INDEX, "no number, full", r -> r.order(w[0], w[1], w[2]));
            }
        });
        s.add(9, "order: IllegalArgumentException before IllegalStateException", c -> {
            for (int weight : new int[] {0, 41}) {
                c.refuses(Rings::full, Due.ARGUMENT, "no weight, full", r -> r.order(0, weight, 0));
            }
        });
        s.add(9, "a refused order takes no number", c -> {
            DyeRing ring = Rings.fullBook();
            for (int number = 0; number < 40; number++) {
                c.fails(ring, Due.INDEX, "order(12, 1, 0)", r -> r.order(12, 1, 0));
                c.fails(ring, Due.INDEX, "order(0, 1, 4)", r -> r.order(0, 1, 4));
                c.fails(ring, Due.ARGUMENT, "order(0, 41, 0)", r -> r.order(0, 41, 0));
                c.answers(ring, number, "the next order", r -> r.order(0, 1, 0));
            }
        });
    }

    // ---- promise 10

    private static void placeRefuses(Sentences s) {
        s.add(10, "order: Throws IndexOutOfBoundsException if there is no such order", c -> {
            c.range(() -> Rings.waiting(0), 0, -1, Due.INDEX, "place of none", DyeRing::place);
            c.range(() -> Rings.waiting(1), 0, 0, Due.INDEX, "place of one", DyeRing::place);
            c.range(() -> Rings.waiting(40), 0, 39, Due.INDEX, "place of forty", DyeRing::place);
        });
        s.add(10, "Throws IllegalStateException if it is not WAITING", c -> {
            c.refuses(() -> Rings.offPieces(2), Due.STATE, "place a dyed one", r -> r.place(0));
            c.refuses(BathSentences::placedOnce, Due.STATE, "place a placed one", r -> r.place(0));
            c.refuses(BathSentences::claimedOnce, Due.STATE, "place a claimed one", r -> r.place(0));
        });
        s.add(10, "NoSuchElementException if no bath is right: none at all, or for other entries alone", c -> {
            c.refuses(BathSentences::noBath, Due.NO_ELEMENT, "place without baths", r -> r.place(0));
            c.refuses(BathSentences::otherEntrysBath, Due.NO_ELEMENT, "place beside others", r -> r.place(0));
            c.refuses(Rings::full, Due.NO_ELEMENT, "an entry without a bath, full", r -> r.place(10));
            c.refuses(Rings::full, Due.NO_ELEMENT, "the other one without a bath", r -> r.place(11));
        });
        s.add(10, "NoSuchElementException if no bath is right: all are off by one", c -> {
            c.refuses(BathSentences::allOffByOne, Due.NO_ELEMENT, "place before ten off baths", r -> r.place(0));
            DyeRing ring = allOffByOne();
            c.fails(ring, Due.NO_ELEMENT, "place(0)", r -> r.place(0));
            c.answers(ring, DyeRing.WAITING, "stateOf(0)", r -> r.stateOf(0));
            ring.water(0, 5);
            c.answers(ring, 0, "place(0) when the water is better", r -> r.place(0));
        });
        s.add(10, "place: IllegalStateException before NoSuchElementException", c -> {
            c.refuses(() -> Rings.offPieces(1), Due.STATE, "a dyed one, no right bath", r -> r.place(0));
            c.refuses(BathSentences::claimedOnce, Due.STATE, "a claimed one, no right bath", r -> r.place(0));
        });
    }

    private static DyeRing placedOnce() {
        DyeRing ring = Rings.waiting(2);
        ring.place(0);
        return ring;
    }

    private static DyeRing claimedOnce() {
        DyeRing ring = Rings.offPieces(1);
        ring.claim(0);
        return ring;
    }

    private static DyeRing noBath() {
        DyeRing ring = new DyeRing();
        ring.entry(50, 30, 20);
        ring.order(0, 1, 0);
        return ring;
    }

    private static DyeRing otherEntrysBath() {
        DyeRing ring = noBath();
        ring.entry(50, 30, 20);
        ring.bath(0, 1);
        ring.bath(1, 1);
        return ring;
    }

    private static DyeRing allOffByOne() {
        DyeRing ring = Rings.waiting(0);
        ring.yarn(0, 0, 1);
        ring.water(0, 6);
        ring.water(1, -6);
        ring.water(2, 6);
        ring.order(0, 1, 0);
        return ring;
    }

    /** One bath that gives the yarn 0 a colour at this distance, shared out over the water and both axes. */
    private static DyeRing atDistance(int tolerance, int distance, int sign) {
        DyeRing ring = new DyeRing();
        ring.entry(30, 30, tolerance);
        ring.bath(0, 0);
        int water = distance / 3;
        int first = distance > 20 ? 7 : distance / 3;
        ring.water(0, sign * water);
        ring.yarn(0, sign * first, -sign * (distance - water - first));
        ring.order(0, 1, 0);
        return ring;
    }

    private static void placeTolerance(Sentences s) {
        s.add(10, "at a distance from the entry's of at most its tolerance", c -> {
            for (int i = 0; i <= 20; i++) {
                int tolerance = i;
                for (int sign = -1; sign <= 1; sign += 2) {
                    int side = sign;
                    c.answers(atDistance(tolerance, tolerance, side), 0, "place at " + tolerance, r -> r.place(0));
                    c.refuses(() -> atDistance(tolerance, tolerance + 1, side), Due.NO_ELEMENT,
                            "place at one more than " + tolerance, r -> r.place(0));
                }
            }
        });
        s.add(10, "the shifts of its own yarn, as they are when it is placed", c -> {
            for (int yarn = 0; yarn < 4; yarn++) {
                int order = yarn;
                DyeRing ring = Rings.waiting(4);
                ring.yarn(yarn, 4, 3);
                c.fails(ring, Due.NO_ELEMENT, "its yarn is off", r -> r.place(order));
                c.answers(ring, 0, "another yarn", r -> r.place((order + 1) % 4));
                ring.yarn(yarn, 3, 3);
                c.answers(ring, 0, "its yarn is right", r -> r.place(order));
                c.answers(ring, 99 * 50 / 100 + 3, "its axis 0", r -> r.colour(order, 0));
            }
        });
        s.add(10, "a bath with a strength of 0 may be right", c -> {
            DyeRing right = baths(10, 100, 0);
            int order = right.order(0, 40, 0);
            c.answers(right, 1, "place at the tolerance", r -> r.place(order));
            c.answers(right, 0, "strength(1)", r -> r.strength(1));
            c.answers(right, 0, "colour", r -> r.colour(order, 0));
            DyeRing off = baths(9, 100, 0);
            int other = off.order(0, 40, 0);
            c.answers(off, 0, "place above the tolerance", r -> r.place(other));
        });
    }

    private static void placeChooses(Sentences s) {
        s.add(10, "dyed in the one with the least strength", c -> {
            int[][] strengths = {{100, 99, 98}, {100, 98, 99}, {99, 100, 98}, {98, 100, 99}, {99, 98, 100},
                {98, 99, 100}, {1, 0, 2}, {50, 49, 51}, {0, 100, 1}};
            int[] due = {2, 1, 2, 0, 1, 0, 1, 1, 0};
            for (int i = 0; i < due.length; i++) {
                DyeRing ring = baths(10, strengths[i]);
                int[] given = strengths[i];
                int order = ring.order(0, 1, 0);
                int chosen = due[i];
                c.answers(ring, chosen, "place", r -> r.place(order));
                for (int j = 0; j < 3; j++) {
                    int bath = j;
                    int left = given[bath] - (bath == chosen && given[bath] > 0 ? 1 : 0);
                    c.answers(ring, left, "strength", r -> r.strength(bath));
                }
            }
        });
        s.add(10, "of several the lowest one", c -> {
            int[][] strengths = {{100, 100, 100}, {100, 90, 90}, {90, 100, 90}, {90, 90, 100}, {0, 0, 0}, {5, 0, 0},
                {100, 100, 99, 99, 99, 100, 100, 100, 100, 99}};
            int[] due = {0, 1, 0, 0, 0, 1, 2};
            for (int i = 0; i < due.length; i++) {
                DyeRing ring = baths(10, strengths[i]);
                int order = ring.order(0, 1, 0);
                c.answers(ring, due[i], "place", r -> r.place(order));
            }
            c.answers(Rings.waiting(1), 0, "place before ten fresh baths", r -> r.place(0));
        });
        s.add(10, "the least strength of the right ones, not of all", c -> {
            // at the strength 89 the axis 0 is 8, at 90 it is 9: the tolerance is 1
            DyeRing ring = baths(1, 89, 95, 90, 100, 0);
            int order = ring.order(0, 1, 0);
            c.answers(ring, 2, "place", r -> r.place(order));
            int next = ring.order(0, 1, 0);
            c.answers(ring, 1, "place when that one is weaker", r -> r.place(next));
        });
        s.add(10, "of the baths for its entry", c -> {
            DyeRing ring = new DyeRing();
            ring.entry(10, 0, 20);
            ring.entry(10, 0, 20);
            for (int bath = 0; bath < 10; bath++) {
                ring.bath(0, bath == 9 ? 1 : 0);
                Rings.weaken(ring, bath == 9 ? 1 : 0, bath, bath == 9 ? 0 : 2 * bath + 1);
            }
            int order = ring.order(1, 1, 0);
            c.answers(ring, 9, "the last bath is the one", r -> r.place(order));
            int other = ring.order(0, 1, 0);
            c.answers(ring, 8, "the weakest of the others", r -> r.place(other));
        });
        s.add(10, "the water of each bath's dyer is looked at", c -> {
            for (int dyer = 0; dyer < 3; dyer++) {
                DyeRing ring = Rings.waiting(1);
                for (int i = 0; i < 3; i++) {
                    ring.water(i, i == dyer ? 6 : -7);
                }
                c.answers(ring, dyer, "place", r -> r.place(0));
                c.answers(ring, 56, "its axis 0", r -> r.colour(0, 0));
            }
        });
    }

    // ---- promise 11

    private static void dyeRefuses(Sentences s) {
        s.add(11, "order: Throws IndexOutOfBoundsException if there is no such order", c -> {
            c.range(() -> Rings.waiting(0), 0, -1, Due.INDEX, "order of none", (r, v) -> r.dye(v, 0));
            c.range(() -> Rings.waiting(1), 0, 0, Due.INDEX, "order of one", (r, v) -> r.dye(v, 0));
            c.range(() -> Rings.waiting(40), 0, 39, Due.INDEX, "order of forty", (r, v) -> r.dye(v, 9));
        });
        s.add(11, "bath: Throws IndexOutOfBoundsException if there is no such bath", c -> {
            c.range(BathSentences::noBath, 0, -1, Due.INDEX, "bath of none", (r, v) -> r.dye(0, v));
            c.range(Rings::small, 0, 1, Due.INDEX, "bath of two", (r, v) -> r.dye(0, v));
            c.range(() -> Rings.waiting(40), 0, 9, Due.INDEX, "bath of ten", (r, v) -> r.dye(39, v));
            c.refuses(Rings::small, Due.INDEX, "neither", r -> r.dye(2, 2));
        });
        s.add(11, "Throws IllegalArgumentException if the bath is not for its entry", c -> {
            c.refuses(Rings::used, Due.ARGUMENT, "dye(1, 0)", r -> r.dye(1, 0));
            c.refuses(Rings::usedWithOtherBaths, Due.ARGUMENT, "dye(0, 2)", r -> r.dye(0, 2));
            c.refuses(Rings::usedWithOtherBaths, Due.ARGUMENT, "an entry of the same colour", r -> r.dye(0, 3));
            for (int i = 0; i < 100; i++) {
                int order = i % 10;
                int bath = i / 10;
                DyeRing ring = Rings.full();
                if (order == bath) {
                    c.answers(ring, 0, "dye in the bath for its entry", r -> r.dye(order, bath));
                } else {
                    c.fails(ring, Due.ARGUMENT, "dye in another bath", r -> r.dye(order, bath));
                }
            }
        });
        s.add(11, "Throws IllegalStateException if it is not WAITING", c -> {
            c.refuses(() -> Rings.offPieces(1), Due.STATE, "dye a dyed one", r -> r.dye(0, 0));
            c.refuses(BathSentences::placedOnce, Due.STATE, "dye a placed one", r -> r.dye(0, 0));
            c.refuses(BathSentences::placedOnce, Due.STATE, "dye it elsewhere", r -> r.dye(0, 9));
            c.refuses(BathSentences::claimedOnce, Due.STATE, "dye a claimed one", r -> r.dye(0, 0));
        });
        s.add(11, "dye: IndexOutOfBoundsException before IllegalStateException", c -> {
            for (int bath : new int[] {-1, 4}) {
                c.refuses(Rings::usedWithOtherBaths, Due.INDEX, "dyed, no bath", r -> r.dye(3, bath));
                c.refuses(Rings::usedWithOtherBaths, Due.INDEX, "claimed, no bath", r -> r.dye(2, bath));
            }
        });
        s.add(11, "dye: IllegalArgumentException before IllegalStateException", c -> {
            for (int bath : new int[] {2, 3}) {
                c.refuses(Rings::usedWithOtherBaths, Due.ARGUMENT, "dyed, another's bath", r -> r.dye(3, bath));
                c.refuses(Rings::usedWithOtherBaths, Due.ARGUMENT, "claimed, another's bath", r -> r.dye(2, bath));
            }
        });
        s.add(11, "dye: IndexOutOfBoundsException for no order, whatever the bath", c -> {
            for (int bath = 0; bath < 4; bath++) {
                int any = bath;
                c.refuses(Rings::usedWithOtherBaths, Due.INDEX, "no order, a bath", r -> r.dye(5, any));
                c.refuses(Rings::usedWithOtherBaths, Due.INDEX, "no order, a bath", r -> r.dye(-1, any));
            }
        });
    }

    private static void dyeAnswers(Sentences s) {
        s.add(11, "right or not", c -> {
            DyeRing ring = allOffByOne();
            c.answers(ring, 7, "dye where it is off", r -> r.dye(0, 9));
            c.answers(ring, DyeRing.DYED, "stateOf", r -> r.stateOf(0));
            c.answers(ring, 99, "strength(9)", r -> r.strength(9));
            c.answers(ring, 100, "strength(0)", r -> r.strength(0));
        });
        s.add(11, "Returns the distance, from 0 on; the furthest is 150", c -> {
            DyeRing right = Rings.waiting(1);
            c.answers(right, 0, "a fresh bath without shifts", r -> r.dye(0, 0));
            DyeRing dark = Rings.piece(60, 60, 0, 100, -10, -10, -10);
            int order = dark.order(0, 1, 0);
            c.answers(dark, 150, "(-20, -10) against (60, 60)", r -> r.dye(order, 0));
            DyeRing bright = Rings.piece(0, 0, 0, 0, 10, 10, 10);
            int other = bright.order(0, 1, 0);
            c.answers(bright, 30, "(20, 10) against (0, 0)", r -> r.dye(other, 0));
        });
        s.add(11, "times the strength, divided by 100, rounded down", c -> {
            for (int lost = 0; lost <= 100; lost++) {
                for (int i = 0; i <= 60; i++) {
                    int first = i;
                    int second = 60 - i;
                    DyeRing ring = Rings.piece(first, second, 0, lost, 0, 0, 0);
                    int dyedFirst = Math.floorDiv(first * (100 - lost), 100);
                    int dyedSecond = Math.floorDiv(second * (100 - lost), 100);
                    c.answers(ring, dyedFirst, "the axis 0 of " + first + " less " + lost, r -> r.colour(0, 0));
                    c.answers(ring, dyedSecond, "the axis 1 of " + second + " less " + lost, r -> r.colour(0, 1));
                    int next = ring.order(0, 1, 0);
                    int left = lost < 100 ? 99 - lost : 0;
                    int distance = first - first * left / 100 + second - second * left / 100;
                    c.answers(ring, distance, "dye one more", r -> r.dye(next, 0));
                }
            }
        });
        s.add(11, "rounded down before the shifts come to it", c -> {
            DyeRing ring = Rings.piece(1, 1, 20, 1, -10, -10, -10);
            c.answers(ring, -20, "0.99 less 20", r -> r.colour(0, 0));
            c.answers(ring, -10, "0.99 less 10", r -> r.colour(0, 1));
            DyeRing other = Rings.piece(59, 59, 20, 1, -10, -10, -10);
            c.answers(other, 38, "58.41 less 20", r -> r.colour(0, 0));
            c.answers(other, 48, "58.41 less 10", r -> r.colour(0, 1));
        });
        s.add(11, "the colour comes from the strength before the weight is taken", c -> {
            DyeRing ring = new DyeRing();
            ring.entry(60, 40, 20);
            ring.bath(0, 0);
            int[] due = {0, 40, 80, 100};
            for (int i = 0; i < due.length; i++) {
                int order = ring.order(0, 40, 0);
                c.answers(ring, due[i], "dye with the weight 40", r -> r.dye(order, 0));
            }
        });
    }
}
