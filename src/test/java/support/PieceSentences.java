/** Boundary cases of the promises 12 to 16: claims, states, colours and blame. */
final class PieceSentences {
    private static final int BATH = 0, WATER = 1, YARN = 2;

    private PieceSentences() {
    }

    static void addTo(Sentences s) {
        claimRefuses(s);
        claimBlames(s);
        claimRemembers(s);
        stateOf(s);
        colours(s, 14, "colour", DyeRing::colour);
        colours(s, 15, "colourByBath", DyeRing::colourByBath);
        follows(s);
        blamed(s);
        blamedCounts(s);
    }

    private static DyeRing claimed() {
        DyeRing ring = Rings.offPieces(1);
        ring.claim(0);
        return ring;
    }

    // ---- promise 12

    private static void claimRefuses(Sentences s) {
        s.add(12, "order: Throws IndexOutOfBoundsException if there is no such order", c -> {
            c.range(() -> Rings.waiting(0), 0, -1, Due.INDEX, "claim of none", DyeRing::claim);
            c.range(() -> Rings.offPieces(1), 0, 0, Due.INDEX, "claim of one", DyeRing::claim);
            c.range(() -> Rings.offPieces(40), 0, 39, Due.INDEX, "claim of forty", DyeRing::claim);
        });
        s.add(12, "Throws IllegalStateException if it is not DYED: it is WAITING", c -> {
            c.refuses(() -> Rings.waiting(1), Due.STATE, "claim", r -> r.claim(0));
            c.refuses(() -> Rings.waiting(40), Due.STATE, "claim", r -> r.claim(39));
            c.refuses(Rings::used, Due.STATE, "claim beside claimed ones", r -> r.claim(4));
        });
        s.add(12, "Then it can be claimed once", c -> {
            c.refuses(PieceSentences::claimed, Due.STATE, "claim again", r -> r.claim(0));
            DyeRing ring = Rings.offPieces(2);
            c.answers(ring, YARN, "claim(1)", r -> r.claim(1));
            c.fails(ring, Due.STATE, "claim(1) again", r -> r.claim(1));
            c.answers(ring, YARN, "claim(0)", r -> r.claim(0));
            c.fails(ring, Due.STATE, "claim(0) again", r -> r.claim(0));
        });
        s.add(12, "Throws IllegalStateException if its piece is not off: at the tolerance", c -> {
            for (int tolerance = 0; tolerance <= 20; tolerance++) {
                int most = tolerance;
                c.refuses(() -> pieceAt(most, most, 1), Due.STATE, "claim at " + most, r -> r.claim(0));
                c.refuses(() -> pieceAt(most, most, -1), Due.STATE, "claim at " + most, r -> r.claim(0));
                c.refuses(() -> pieceAt(most, 0, 1), Due.STATE, "claim at 0", r -> r.claim(0));
            }
        });
        s.add(12, "A piece is off if the distance is above the tolerance, by one", c -> {
            for (int tolerance = 0; tolerance <= 20; tolerance++) {
                for (int sign = -1; sign <= 1; sign += 2) {
                    DyeRing ring = pieceAt(tolerance, tolerance + 1, sign);
                    c.answers(ring, YARN, "claim at one more than " + tolerance, r -> r.claim(0));
                    c.answers(ring, DyeRing.CLAIMED, "stateOf", r -> r.stateOf(0));
                }
            }
        });
    }

    /** A piece at this distance, most of it by the yarn, on both axes if it must be. */
    private static DyeRing pieceAt(int tolerance, int distance, int sign) {
        int first = Math.min(distance, 10);
        int second = Math.min(distance - first, 10);
        int water = distance - first - second;
        return Rings.piece(30, 30, tolerance, 0, sign * water, sign * first, -sign * second);
    }

    /** A piece, told as to Rings.piece, with the three colours' distances from its entry's. */
    private static void blames(Checks c, int due, int fresh, int withoutWater, int withoutYarn, int... p) {
        String distances = fresh + ", " + withoutWater + ", " + withoutYarn;
        c.same("the distances", away(p, 100, p[4], p[5], p[6]) + ", " + away(p, 100 - p[3], 0, p[5], p[6]) + ", "
                + away(p, 100 - p[3], p[4], 0, 0), distances);
        DyeRing ring = Rings.piece(p[0], p[1], p[2], p[3], p[4], p[5], p[6]);
        c.answers(ring, due, "claim by " + distances, r -> r.claim(0));
        c.answers(ring, 1, "blamed by " + distances, r -> r.blamed(0, due));
    }

    private static void claimBlames(Sentences s) {
        s.add(12, "of several the first one: BATH and WATER are even", c -> {
            blames(c, BATH, 4, 4, 10, 50, 0, 6, 10, -5, 1, 0);
            blames(c, BATH, 5, 5, 10, 50, 0, 6, 10, -5, 0, 0);
        });
        s.add(12, "of several the first one: BATH and YARN are even", c -> {
            blames(c, BATH, 8, 16, 8, 50, 30, 6, 10, 0, -4, -4);
            blames(c, BATH, 6, 10, 6, 50, 0, 6, 10, -1, -5, 0);
        });
        s.add(12, "of several the first one: WATER and YARN are even", c -> {
            blames(c, WATER, 10, 5, 5, 50, 30, 6, 0, 5, 5, 0);
            blames(c, WATER, 10, 5, 5, 50, 30, 6, 0, -5, -5, 0);
            blames(c, WATER, 12, 7, 7, 50, 0, 6, 2, -6, -6, 0);
        });
        s.add(12, "of several the first one: all three are even", c -> {
            blames(c, BATH, 10, 10, 10, 50, 0, 6, 10, -5, -5, 0);
            blames(c, BATH, 20, 20, 20, 50, 0, 20, 20, -10, -10, 0);
        });
        s.add(12, "the least distance, by one", c -> {
            blames(c, BATH, 10, 11, 11, 60, 0, 6, 10, -5, -5, 0);
            blames(c, WATER, 9, 8, 9, 50, 0, 6, 8, -5, -4, 0);
            blames(c, YARN, 11, 10, 9, 50, 0, 6, 8, -5, -6, 0);
            blames(c, YARN, 10, 11, 9, 50, 0, 6, 10, -4, -6, 0);
            blames(c, YARN, 9, 9, 8, 50, 0, 6, 8, -4, -5, 0);
            blames(c, WATER, 11, 5, 6, 50, 30, 6, 0, 6, 5, 0);
            blames(c, YARN, 11, 6, 5, 50, 30, 6, 0, 5, 6, 0);
        });
        s.add(12, "the least distance, where none is less than the piece's own", c -> {
            // (50, 24) is at the distance 6: what one shift lacks, the others mend
            blames(c, BATH, 10, 11, 11, 50, 30, 5, 20, 5, 5, 0);
            blames(c, WATER, 10, 6, 16, 50, 30, 5, 20, 0, 10, 0);
            blames(c, YARN, 10, 16, 6, 50, 30, 5, 20, 10, 0, 0);
        });
        s.add(12, "What is to blame is found by three colours: all strengths and shifts", PieceSentences::blameGrid);
    }

    private static void blameGrid(Checks c) {
        int[] entry = {20, 30};
        int[] lost = {0, 1, 5, 10, 20, 50, 99, 100};
        int[] shifts = {-10, -7, -3, -1, 0, 1, 2, 6, 10};
        for (int i = 0; i < lost.length * shifts.length; i++) {
            int strength = 100 - lost[i / shifts.length];
            int water = shifts[i % shifts.length];
            for (int j = 0; j < shifts.length * shifts.length; j++) {
                int first = shifts[j / shifts.length];
                int second = shifts[j % shifts.length];
                DyeRing ring = Rings.piece(20, 30, 0, 100 - strength, water, first, second);
                String what = "claim at " + strength + ", " + water + ", " + first + ", " + second;
                if (away(entry, strength, water, first, second) == 0) {
                    c.fails(ring, Due.STATE, what, r -> r.claim(0));
                } else {
                    c.answers(ring, blameOf(entry, strength, water, first, second), what, r -> r.claim(0));
                }
            }
        }
    }

    /** How far from the entry's, p[0] and p[1], a colour is. */
    private static int away(int[] p, int strength, int water, int first, int second) {
        int onFirst = p[0] * strength / 100 + water + first - p[0];
        int onSecond = p[1] * strength / 100 + second - p[1];
        return Math.max(onFirst, -onFirst) + Math.max(onSecond, -onSecond);
    }

    private static int blameOf(int[] p, int strength, int water, int first, int second) {
        int[] distances = {away(p, 100, water, first, second), away(p, strength, 0, first, second),
            away(p, strength, water, 0, 0)};
        int best = YARN;
        for (int blame = WATER; blame >= BATH; blame--) {
            best = distances[blame] <= distances[best] ? blame : best;
        }
        return best;
    }

    private static void claimRemembers(Sentences s) {
        s.add(12, "each with all else as it was when it was dyed", c -> {
            int[][] pieces = {{20, -3, 0, 0, BATH}, {0, 9, 1, 0, WATER}, {0, 1, 9, 1, YARN}, {40, 5, 0, 0, BATH}};
            for (int[] p : pieces) {
                for (int shift = -10; shift <= 10; shift += 10) {
                    DyeRing ring = Rings.piece(50, 30, 6, p[0], p[1], p[2], p[3]);
                    ring.water(0, shift);
                    ring.yarn(0, shift, -shift);
                    ring.freshen(0);
                    Rings.weaken(ring, 0, 0, 50);
                    c.answers(ring, p[4], "claim after all has changed", r -> r.claim(0));
                }
            }
        });
        s.add(12, "a piece is off, or not, for ever", c -> {
            DyeRing right = Rings.piece(50, 30, 6, 0, 6, 0, 0);
            right.water(0, 10);
            right.yarn(0, 10, 10);
            Rings.weaken(right, 0, 0, 99);
            c.fails(right, Due.STATE, "claim what was right", r -> r.claim(0));
            DyeRing off = Rings.piece(50, 30, 6, 0, 7, 0, 0);
            off.water(0, 0);
            off.freshen(0);
            c.answers(off, WATER, "claim what was off", r -> r.claim(0));
        });
    }

    // ---- promise 13

    private static void stateOf(Sentences s) {
        s.add(13, "order: Throws IndexOutOfBoundsException if there is no such order", c -> {
            c.range(() -> Rings.waiting(0), 0, -1, Due.INDEX, "stateOf of none", DyeRing::stateOf);
            c.range(Rings::small, 0, 1, Due.INDEX, "stateOf of two", DyeRing::stateOf);
            c.range(() -> Rings.offPieces(40), 0, 39, Due.INDEX, "stateOf of forty", DyeRing::stateOf);
        });
        s.add(13, "Returns WAITING, DYED or CLAIMED", c -> {
            for (int i = 0; i < 40; i++) {
                int order = i;
                DyeRing ring = Rings.waiting(40);
                ring.yarn(order % 4, 10, 10);
                c.answers(ring, 0, "an order", r -> r.stateOf(order));
                ring.dye(order, order % 10);
                c.answers(ring, 1, "a piece", r -> r.stateOf(order));
                ring.claim(order);
                c.answers(ring, 2, "a claimed one", r -> r.stateOf(order));
                c.answers(ring, 0, "another order", r -> r.stateOf((order + 1) % 40));
            }
        });
        s.add(13, "a refused call leaves the state as it was", c -> {
            DyeRing ring = Rings.usedWithOtherBaths();
            c.fails(ring, Due.NO_ELEMENT, "place(0)", r -> r.place(0));
            c.fails(ring, Due.ARGUMENT, "dye(0, 2)", r -> r.dye(0, 2));
            c.fails(ring, Due.STATE, "claim(0)", r -> r.claim(0));
            c.answers(ring, DyeRing.WAITING, "stateOf(0)", r -> r.stateOf(0));
            ring.water(0, 0);
            ring.place(1);
            c.fails(ring, Due.STATE, "claim(1)", r -> r.claim(1));
            c.fails(ring, Due.STATE, "dye(1, 2)", r -> r.dye(1, 2));
            c.answers(ring, DyeRing.DYED, "stateOf(1)", r -> r.stateOf(1));
            c.fails(ring, Due.STATE, "claim(2)", r -> r.claim(2));
            c.fails(ring, Due.STATE, "dye(2, 0)", r -> r.dye(2, 0));
            c.fails(ring, Due.STATE, "place(2)", r -> r.place(2));
            c.answers(ring, DyeRing.CLAIMED, "stateOf(2)", r -> r.stateOf(2));
        });
    }

    // ---- promises 14 and 15

    /** The two calls that tell a piece's colour have the same edges. */
    private interface ColourCall {
        int of(DyeRing ring, int order, int axis);
    }

    private static void colours(Sentences s, int promise, String name, ColourCall call) {
        s.add(promise, name + ", order: Throws IndexOutOfBoundsException if there is no such order", c -> {
            c.range(() -> Rings.waiting(0), 0, -1, Due.INDEX, "order of none", (r, v) -> call.of(r, v, 0));
            c.range(() -> Rings.offPieces(1), 0, 0, Due.INDEX, "order of one", (r, v) -> call.of(r, v, 0));
            c.range(() -> Rings.offPieces(40), 0, 39, Due.INDEX, "order of forty", (r, v) -> call.of(r, v, 1));
        });
        s.range(promise, name + ", axis: 0 or 1", () -> Rings.offPieces(3), 0, 1, Due.INDEX,
                (r, v) -> call.of(r, 2, v));
        s.add(promise, name + ": Throws IllegalStateException if it is WAITING", c -> {
            for (int axis = 0; axis < 2; axis++) {
                int a = axis;
                c.refuses(() -> Rings.waiting(40), Due.STATE, "the first order", r -> call.of(r, 0, a));
                c.refuses(() -> Rings.waiting(40), Due.STATE, "the last order", r -> call.of(r, 39, a));
                c.refuses(Rings::used, Due.STATE, "an order beside pieces", r -> call.of(r, 4, a));
            }
        });
        s.add(promise, name + ": IndexOutOfBoundsException before IllegalStateException", c -> {
            c.refuses(Rings::used, Due.INDEX, "waiting, no axis", r -> call.of(r, 0, 2));
            c.refuses(Rings::used, Due.INDEX, "waiting, no axis", r -> call.of(r, 4, -1));
        });
        s.add(promise, name + ": Returns the colour, perhaps below 0", c -> {
            for (int lost = 0; lost <= 100; lost += 50) {
                DyeRing dark = Rings.piece(0, 0, 20, lost, -10, -10, -10);
                c.answers(dark, -20, "the least on the axis 0", r -> call.of(r, 0, 0));
                c.answers(dark, -10, "the least on the axis 1", r -> call.of(r, 0, 1));
            }
            DyeRing bright = Rings.piece(60, 60, 20, 0, 10, 10, 10);
            c.answers(bright, 80, "the most on the axis 0", r -> call.of(r, 0, 0));
            c.answers(bright, 70, "the most on the axis 1", r -> call.of(r, 0, 1));
            DyeRing empty = Rings.piece(60, 60, 20, 100, -4, 3, 0);
            c.answers(empty, -1, "just below 0", r -> call.of(r, 0, 0));
            c.answers(empty, 0, "a strength of 0", r -> call.of(r, 0, 1));
        });
        s.add(promise, name + ": its piece has the colour then, for ever", c -> isForEver(c, call));
    }

    private static void isForEver(Checks c, ColourCall call) {
        DyeRing ring = Rings.piece(50, 30, 6, 10, 7, -9, 8);
        String[] changes = {"nothing", "water", "yarn", "freshen", "freshen again", "a later piece", "a later bath",
            "a claim", "a later entry"};
        for (int i = 0; i < changes.length; i++) {
            switch (i) {
                case 1: ring.water(0, -10); break;
                case 2: ring.yarn(0, 10, 10); break;
                case 3: case 4: ring.freshen(0); break;
                case 5: Rings.weaken(ring, 0, 0, 70); break;
                case 6: ring.bath(0, 0); break;
                case 7: ring.claim(0); break;
                case 8: ring.entry(0, 0, 0); break;
                default: break;
            }
            c.answers(ring, 43, "the axis 0 after " + changes[i], r -> call.of(r, 0, 0));
            c.answers(ring, 35, "the axis 1 after " + changes[i], r -> call.of(r, 0, 1));
        }
    }

    private static void follows(Sentences s) {
        s.add(15, "from its making on, piece by piece: forty pieces", c -> {
            DyeRing ring = new DyeRing();
            ring.entry(60, 50, 20);
            ring.bath(0, 0);
            for (int i = 0; i < 40; i++) {
                ring.dye(ring.order(0, 1 + i % 4, 0), 0);
            }
            int strength = 100;
            for (int i = 0; i < 40; i++) {
                tells(c, ring, i, 60 * strength / 100, strength / 2);
                strength = Math.max(strength - 1 - i % 4, 0);
            }
        });
        s.add(15, "each time it was made fresh: before, between and after the pieces, once or twice", c -> {
            for (int times = 0; times < 3; times++) {
                for (int when = 0; when <= 4; when++) {
                    DyeRing ring = new DyeRing();
                    ring.entry(60, 50, 20);
                    ring.bath(0, 0);
                    for (int i = 0; i <= 4; i++) {
                        for (int time = 0; time < times && i == when; time++) {
                            ring.freshen(0);
                        }
                        if (i < 4) {
                            ring.dye(ring.order(0, 10, 0), 0);
                        }
                    }
                    for (int i = 0; i < 4; i++) {
                        int strength = 100 - 10 * (times > 0 && i >= when ? i - when : i);
                        tells(c, ring, i, 60 * strength / 100, strength / 2);
                    }
                }
            }
        });
        s.add(15, "a bath that is empty is followed at 0, and fresh again at 100", c -> {
            DyeRing ring = new DyeRing();
            ring.entry(60, 50, 20);
            ring.bath(0, 0);
            int[] strengths = {100, 60, 20, 0, 0, 100, 60};
            for (int i = 0; i < strengths.length; i++) {
                if (i == 5) {
                    ring.freshen(0);
                }
                ring.dye(ring.order(0, 40, 0), 0);
            }
            for (int i = 0; i < strengths.length; i++) {
                tells(c, ring, i, 60 * strengths[i] / 100, strengths[i] / 2);
            }
        });
        s.add(15, "its bath: ten baths by turns, in another order than the numbers", c -> {
            DyeRing ring = Rings.waiting(40);
            for (int i = 0; i < 40; i++) {
                ring.dye(39 - i, i % 10);
            }
            for (int i = 0; i < 40; i++) {
                int strength = 100 - i / 10;
                tells(c, ring, 39 - i, 50 * strength / 100, 30 * strength / 100);
            }
        });
    }

    /** Both calls tell this colour. */
    private static void tells(Checks c, DyeRing ring, int order, int first, int second) {
        c.answers(ring, first, "colourByBath(" + order + ", 0)", r -> r.colourByBath(order, 0));
        c.answers(ring, second, "colourByBath(" + order + ", 1)", r -> r.colourByBath(order, 1));
        c.answers(ring, first, "colour(" + order + ", 0)", r -> r.colour(order, 0));
        c.answers(ring, second, "colour(" + order + ", 1)", r -> r.colour(order, 1));
    }

    // ---- promise 16

    private static void blamed(Sentences s) {
        s.range(16, "dyer: 0 to 2", Rings::used, 0, 2, Due.INDEX, (r, v) -> r.blamed(v, 0));
        s.range(16, "blame: BATH, WATER or YARN", Rings::used, 0, 2, Due.ARGUMENT, (r, v) -> r.blamed(0, v));
        s.add(16, "blamed: IndexOutOfBoundsException before IllegalArgumentException", c -> {
            for (int dyer : new int[] {-1, 3}) {
                for (int blame : new int[] {-1, 3}) {
                    c.refuses(Rings::used, Due.INDEX, "no dyer and no blame", r -> r.blamed(dyer, blame));
                }
            }
        });
    }

    private static void blamedCounts(Sentences s) {
        s.add(16, "Returns the pieces, from 0 to all 40", c -> {
            DyeRing ring = Rings.offPieces(40);
            for (int i = 0; i < 40; i++) {
                c.answers(ring, i, "blamed(0, YARN)", r -> r.blamed(0, YARN));
                ring.claim(39 - i);
            }
            c.answers(ring, 40, "blamed(0, YARN)", r -> r.blamed(0, YARN));
            c.answers(ring, 0, "blamed(0, WATER)", r -> r.blamed(0, WATER));
            c.answers(ring, 0, "blamed(1, YARN)", r -> r.blamed(1, YARN));
        });
        s.add(16, "of a dyer's baths, with something to blame", c -> {
            for (int i = 0; i < 9; i++) {
                int dyer = i / 3;
                int blame = i % 3;
                DyeRing ring = offByEach(dyer, blame);
                c.answers(ring, 0, "off, but not claimed", r -> r.blamed(dyer, blame));
                c.answers(ring, blame, "claim(0)", r -> r.claim(0));
                for (int j = 0; j < 9; j++) {
                    int pair = j;
                    c.answers(ring, pair == 3 * dyer + blame ? 1 : 0, "blamed", r -> r.blamed(pair / 3, pair % 3));
                }
            }
        });
        s.add(16, "a refused claim blames nobody", c -> {
            DyeRing ring = Rings.usedWithOtherBaths();
            ring.water(0, 0);
            ring.place(1);
            c.fails(ring, Due.INDEX, "claim(5)", r -> r.claim(5));
            for (int order = 0; order < 3; order++) {
                int refused = order;
                c.fails(ring, Due.STATE, "claim of a waiting, a right, a claimed one", r -> r.claim(refused));
            }
            for (int i = 0; i < 9; i++) {
                int pair = i;
                c.answers(ring, pair == 1 ? 1 : 0, "blamed", r -> r.blamed(pair / 3, pair % 3));
            }
        });
    }

    /** The order 0 is off in a bath of the dyer, with this to blame. */
    private static DyeRing offByEach(int dyer, int blame) {
        DyeRing ring = Rings.waiting(1);
        Rings.weaken(ring, 0, dyer + 3, 50);
        if (blame == BATH) {
            ring.dye(0, dyer + 3);
            return ring;
        }
        ring.water(dyer, blame == WATER ? 10 : 0);
        ring.yarn(0, 0, blame == YARN ? 10 : 0);
        ring.dye(0, dyer + 6);
        return ring;
    }
}
