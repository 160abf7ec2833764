/** Boundary cases of the promises 1 to 5: a new object, the book, water and yarn. */
final class BookSentences {
    private BookSentences() {
    }

    static void addTo(Sentences s) {
        emptyRing(s);
        ringWithoutShifts(s);
        entryRanges(s);
        entryLimit(s);
        water(s);
        yarn(s);
        apart(s);
    }

    // ---- promise 1

    /** An order for an entry that may be dyed anywhere, but there is no bath. */
    private static DyeRing orderWithoutBath() {
        DyeRing ring = new DyeRing();
        ring.entry(50, 30, 20);
        ring.order(0, 1, 0);
        return ring;
    }

    private static void emptyRing(Sentences s) {
        s.add(1, "A ring without entries", c -> {
            c.refuses(DyeRing::new, Due.INDEX, "apart(0, 0)", r -> r.apart(0, 0));
            c.refuses(DyeRing::new, Due.INDEX, "bath(0, 0)", r -> r.bath(0, 0));
            c.refuses(DyeRing::new, Due.INDEX, "order(0, 1, 0)", r -> r.order(0, 1, 0));
            c.answers(new DyeRing(), 0, "the first entry", r -> r.entry(0, 0, 0));
        });
        s.add(1, "A ring without baths", c -> {
            c.refuses(DyeRing::new, Due.INDEX, "strength(0)", r -> r.strength(0));
            c.refuses(DyeRing::new, Due.INDEX, "freshen(0)", r -> r.freshen(0));
            c.refuses(BookSentences::orderWithoutBath, Due.INDEX, "dye(0, 0)", r -> r.dye(0, 0));
            c.refuses(BookSentences::orderWithoutBath, Due.NO_ELEMENT, "place(0)", r -> r.place(0));
            c.answers(orderWithoutBath(), 0, "the first bath", r -> r.bath(0, 0));
        });
        s.add(1, "A ring without orders", c -> {
            c.refuses(DyeRing::new, Due.INDEX, "place(0)", r -> r.place(0));
            c.refuses(DyeRing::new, Due.INDEX, "dye(0, 0)", r -> r.dye(0, 0));
            c.refuses(DyeRing::new, Due.INDEX, "claim(0)", r -> r.claim(0));
            c.refuses(DyeRing::new, Due.INDEX, "stateOf(0)", r -> r.stateOf(0));
            c.refuses(DyeRing::new, Due.INDEX, "colour(0, 0)", r -> r.colour(0, 0));
            c.refuses(DyeRing::new, Due.INDEX, "colourByBath(0, 0)", r -> r.colourByBath(0, 0));
            c.answers(Rings.fullBook(), 0, "the first order", r -> r.order(0, 1, 0));
        });
        s.add(1, "A ring without debts", c -> isWithoutDebts(c, new DyeRing()));
        s.add(1, "nothing is claimed at first", c -> {
            for (int i = 0; i < 9; i++) {
                int pair = i;
                c.answers(new DyeRing(), 0, "blamed", r -> r.blamed(pair / 3, pair % 3));
            }
        });
        s.add(1, "a new object takes nothing from one before it", c -> {
            Rings.full();
            Rings.used();
            Rings.offPieces(40).claim(39);
            isWithoutDebts(c, new DyeRing());
            c.answers(new DyeRing(), 0, "the first entry", r -> r.entry(1, 1, 1));
            c.fails(new DyeRing(), Due.INDEX, "strength(0)", r -> r.strength(0));
            c.fails(new DyeRing(), Due.INDEX, "stateOf(0)", r -> r.stateOf(0));
            c.answers(new DyeRing(), 0, "blamed(0, YARN)", r -> r.blamed(0, 2));
            c.answers(new DyeRing(), 0, "water(0, 1)", r -> r.water(0, 1));
            c.answers(new DyeRing(), 0, "yarn(1, 1, 1)", r -> r.yarn(1, 1, 1));
            c.answers(new DyeRing(), 0, "shrinks(1, 1)", r -> r.shrinks(1, 1));
        });
    }

    private static void isWithoutDebts(Checks c, DyeRing ring) {
        for (int i = 0; i < 3; i++) {
            int cloth = i;
            for (int j = 0; j < 25; j++) {
                int pair = j;
                c.answers(ring, 0, "owes", r -> r.owes(pair / 5, pair % 5, cloth));
            }
            for (int j = 0; j < 5; j++) {
                int person = j;
                c.answers(ring, 0, "position", r -> r.position(person, cloth));
            }
            c.answers(ring, 0, "net", r -> r.net(cloth));
        }
    }

    private static void ringWithoutShifts(Sentences s) {
        s.add(1, "water that shifts the axis 0, by 0 at first", c -> {
            for (int i = 0; i < 3; i++) {
                int dyer = i;
                c.answers(new DyeRing(), 0, "water before", r -> r.water(dyer, 5));
            }
            eachDyerAndYarn(c);
        });
        s.add(1, "yarns, each with a shift on each axis, 0 at first", c -> {
            for (int i = 0; i < 4; i++) {
                int yarn = i;
                c.answers(new DyeRing(), 0, "yarn before", r -> r.yarn(yarn, 5, 5));
            }
            eachDyerAndYarn(c);
        });
        s.add(1, "a shrinkage in hundredths, 0 at first", c -> {
            for (int i = 0; i < 3; i++) {
                int cloth = i;
                c.answers(new DyeRing(), 0, "shrinks before", r -> r.shrinks(cloth, 5));
                c.answers(new DyeRing(), 1000, "a length that does not shrink", r -> r.give(0, 1, cloth, 1000));
            }
        });
    }

    private static void eachDyerAndYarn(Checks c) {
        for (int i = 0; i < 12; i++) {
            DyeRing ring = new DyeRing();
            ring.entry(50, 30, 0);
            ring.bath(i % 3, 0);
            ring.order(0, 1, i % 4);
            c.answers(ring, 0, "the distance without shifts", r -> r.dye(0, 0));
            c.answers(ring, 50, "the axis 0 without shifts", r -> r.colour(0, 0));
            c.answers(ring, 30, "the axis 1 without shifts", r -> r.colour(0, 1));
        }
    }

    // ---- promise 2

    private static void entryRanges(Sentences s) {
        s.range(2, "first: 0 to 60", Rings::small, 0, 60, Due.ARGUMENT, (r, v) -> r.entry(v, 30, 5));
        s.range(2, "second: 0 to 60", Rings::small, 0, 60, Due.ARGUMENT, (r, v) -> r.entry(30, v, 5));
        s.range(2, "tolerance: 0 to 20", Rings::small, 0, 20, Due.ARGUMENT, (r, v) -> r.entry(30, 30, v));
        s.add(2, "a colour at the ends of both axes is kept", c -> {
            int[] ends = {0, 1, 59, 60};
            for (int i = 0; i < 16; i++) {
                int first = ends[i / 4];
                int second = ends[i % 4];
                DyeRing ring = Rings.piece(first, second, 20, 0, 0, 0, 0);
                c.answers(ring, first, "the axis 0", r -> r.colour(0, 0));
                c.answers(ring, second, "the axis 1", r -> r.colour(0, 1));
            }
        });
        s.add(2, "each entry keeps its own tolerance, from 0 to 20", c -> {
            for (int tolerance = 0; tolerance <= 20; tolerance++) {
                DyeRing ring = new DyeRing();
                ring.entry(50, 30, 20 - tolerance);
                ring.entry(50, 30, tolerance);
                ring.bath(0, 1);
                ring.yarn(0, -tolerance / 2, tolerance - tolerance / 2);
                ring.order(1, 1, 0);
                c.answers(ring, 0, "place at the tolerance", r -> r.place(0));
                c.fails(ring, Due.STATE, "claim at the tolerance", r -> r.claim(0));
                ring.yarn(1, tolerance / 2, tolerance / 2 - tolerance);
                ring.water(0, 1);
                ring.order(1, 1, 1);
                ring.freshen(0);
                c.fails(ring, Due.NO_ELEMENT, "place above the tolerance", r -> r.place(1));
                c.answers(ring, tolerance + 1, "dye above the tolerance", r -> r.dye(1, 0));
                int blame = tolerance < 2 ? DyeRing.WATER : DyeRing.YARN;
                c.answers(ring, blame, "claim above the tolerance", r -> r.claim(1));
            }
        });
    }

    private static void entryLimit(Sentences s) {
        s.add(2, "entries, numbered from 0", c -> {
            DyeRing ring = new DyeRing();
            for (int number = 0; number < 12; number++) {
                c.answers(ring, number, "the next entry", r -> r.entry(50, 30, 6));
            }
        });
        s.add(2, "Throws IllegalStateException if there are 12", c -> {
            DyeRing eleven = new DyeRing();
            for (int i = 0; i < 11; i++) {
                eleven.entry(i, i, i);
            }
            c.answers(eleven, 11, "a twelfth entry", r -> r.entry(11, 11, 11));
            c.fails(eleven, Due.STATE, "a thirteenth entry", r -> r.entry(12, 12, 12));
            c.refuses(Rings::fullBook, Due.STATE, "a thirteenth entry", r -> r.entry(0, 0, 0));
            c.refuses(Rings::full, Due.STATE, "a thirteenth entry", r -> r.entry(60, 60, 20));
        });
        s.add(2, "entry: IllegalArgumentException before IllegalStateException", c -> {
            int[][] wrong = {{-1, 0, 0}, {61, 0, 0}, {0, -1, 0}, {0, 61, 0}, {0, 0, -1}, {0, 0, 21}, {61, 61, 21}};
            for (int[] w : wrong) {
                c.refuses(Rings::fullBook, Due.ARGUMENT, "a wrong thirteenth", r -> r.entry(w[0], w[1], w[2]));
            }
        });
        s.add(2, "a refused entry takes no number", c -> {
            DyeRing ring = new DyeRing();
            c.fails(ring, Due.ARGUMENT, "entry(0, 0, 21)", r -> r.entry(0, 0, 21));
            c.fails(ring, Due.ARGUMENT, "entry(61, 0, 0)", r -> r.entry(61, 0, 0));
            c.fails(ring, Due.INDEX, "apart(0, 0)", r -> r.apart(0, 0));
            for (int number = 0; number < 12; number++) {
                c.fails(ring, Due.ARGUMENT, "entry(0, -1, 0)", r -> r.entry(0, -1, 0));
                c.answers(ring, number, "the next entry", r -> r.entry(0, 0, 0));
            }
        });
    }

    // ---- promise 3

    private static void water(Sentences s) {
        s.range(3, "dyer: 0 to 2", Rings::used, 0, 2, Due.INDEX, (r, v) -> r.water(v, 1));
        s.range(3, "shift: -10 to 10", Rings::used, -10, 10, Due.ARGUMENT, (r, v) -> r.water(1, v));
        s.add(3, "Returns the shift before", c -> {
            DyeRing own = new DyeRing();
            for (int i = 0; i < 6; i++) {
                int dyer = i % 3;
                c.answers(own, i < 3 ? 0 : dyer + 1, "its own water", r -> r.water(dyer, dyer + 1));
            }
            DyeRing ring = new DyeRing();
            for (int i = -10; i <= 10; i++) {
                int shift = i;
                for (int j = 0; j < 3; j++) {
                    int dyer = j;
                    int before = i == -10 ? 0 : dyer == 1 ? 1 - i : i - 1;
                    c.answers(ring, before, "water", r -> r.water(dyer, dyer == 1 ? -shift : shift));
                }
            }
            c.answers(ring, 10, "water(0, -10)", r -> r.water(0, -10));
            c.answers(ring, -10, "water(0, 0)", r -> r.water(0, 0));
            c.answers(ring, 0, "water(0, 0) again", r -> r.water(0, 0));
            c.answers(ring, -10, "the dyer 1 keeps its water", r -> r.water(1, 0));
            c.answers(ring, 10, "the dyer 2 keeps its water", r -> r.water(2, 0));
        });
        s.add(3, "water: IndexOutOfBoundsException before IllegalArgumentException", c -> {
            for (int dyer : new int[] {-1, 3}) {
                for (int shift : new int[] {-11, 11}) {
                    c.refuses(Rings::used, Due.INDEX, "no dyer and no shift", r -> r.water(dyer, shift));
                }
            }
        });
        s.add(3, "refused water keeps the shift before", c -> {
            DyeRing ring = Rings.small();
            ring.water(0, 10);
            c.fails(ring, Due.ARGUMENT, "water(0, 11)", r -> r.water(0, 11));
            c.fails(ring, Due.ARGUMENT, "water(0, -11)", r -> r.water(0, -11));
            c.answers(ring, 10, "dye", r -> r.dye(0, 0));
            c.answers(ring, 10, "water(0, 0)", r -> r.water(0, 0));
        });
        s.add(3, "the water of a dyer shifts the axis 0 of its baths alone", c -> {
            for (int shift = -10; shift <= 10; shift++) {
                for (int dyer = 0; dyer < 3; dyer++) {
                    DyeRing ring = Rings.waiting(3);
                    ring.water(dyer, shift);
                    for (int i = 0; i < 3; i++) {
                        int bath = i;
                        ring.dye(bath, bath);
                        c.answers(ring, bath == dyer ? 50 + shift : 50, "the axis 0", r -> r.colour(bath, 0));
                        c.answers(ring, 30, "the axis 1", r -> r.colour(bath, 1));
                    }
                }
            }
        });
    }

    // ---- promise 4

    private static void yarn(Sentences s) {
        s.range(4, "yarn: 0 to 3", Rings::used, 0, 3, Due.INDEX, (r, v) -> r.yarn(v, 1, 1));
        s.range(4, "first: that on the axis 0, -10 to 10", Rings::used, -10, 10, Due.ARGUMENT,
                (r, v) -> r.yarn(1, v, 1));
        s.range(4, "second: that on the axis 1, -10 to 10", Rings::used, -10, 10, Due.ARGUMENT,
                (r, v) -> r.yarn(1, 1, v));
        s.add(4, "Returns the shift on the axis 0 before", c -> {
            DyeRing own = new DyeRing();
            for (int i = 0; i < 8; i++) {
                int yarn = i % 4;
                c.answers(own, i < 4 ? 0 : yarn + 1, "its own shift", r -> r.yarn(yarn, yarn + 1, -yarn));
            }
            DyeRing ring = new DyeRing();
            for (int i = -10; i <= 10; i++) {
                int shift = i;
                for (int j = 0; j < 4; j++) {
                    int yarn = j;
                    int before = i == -10 ? 0 : yarn == 1 ? 1 - i : i - 1;
                    c.answers(ring, before, "yarn", r -> r.yarn(yarn, yarn == 1 ? -shift : shift, 7));
                }
            }
            c.answers(ring, 10, "yarn(0, -10, 10)", r -> r.yarn(0, -10, 10));
            c.answers(ring, -10, "yarn(0, 0, -10)", r -> r.yarn(0, 0, -10));
            c.answers(ring, 0, "yarn(0, 0, 0)", r -> r.yarn(0, 0, 0));
            c.answers(ring, -10, "the yarn 1 keeps its shifts", r -> r.yarn(1, 0, 0));
            c.answers(ring, 10, "the yarn 3 keeps its shifts", r -> r.yarn(3, 0, 0));
        });
        s.add(4, "yarn: IndexOutOfBoundsException before IllegalArgumentException", c -> {
            for (int yarn : new int[] {-1, 4}) {
                c.refuses(Rings::used, Due.INDEX, "no yarn and no first", r -> r.yarn(yarn, 11, 0));
                c.refuses(Rings::used, Due.INDEX, "no yarn and no second", r -> r.yarn(yarn, 0, -11));
                c.refuses(Rings::used, Due.INDEX, "no yarn and no shifts", r -> r.yarn(yarn, -11, 11));
            }
        });
        s.add(4, "refused yarn keeps both shifts before", c -> {
            int[][] wrong = {{5, 11}, {5, -11}, {11, 5}, {-11, 5}, {11, 11}};
            for (int[] w : wrong) {
                DyeRing ring = Rings.small();
                ring.yarn(0, 10, -10);
                c.fails(ring, Due.ARGUMENT, "yarn", r -> r.yarn(0, w[0], w[1]));
                c.answers(ring, 20, "dye", r -> r.dye(0, 0));
                c.answers(ring, 60, "the axis 0", r -> r.colour(0, 0));
                c.answers(ring, 20, "the axis 1", r -> r.colour(0, 1));
                c.answers(ring, 10, "yarn(0, 0, 0)", r -> r.yarn(0, 0, 0));
            }
        });
        s.add(4, "a yarn shifts each axis of its pieces alone", c -> {
            for (int shift = -10; shift <= 10; shift++) {
                for (int yarn = 0; yarn < 4; yarn++) {
                    DyeRing ring = Rings.waiting(4);
                    ring.yarn(yarn, shift, 3 - shift / 2);
                    for (int i = 0; i < 4; i++) {
                        int order = i;
                        ring.dye(order, 0);
                        ring.freshen(0);
                        boolean shifted = order == yarn;
                        c.answers(ring, shifted ? 50 + shift : 50, "the axis 0", r -> r.colour(order, 0));
                        c.answers(ring, shifted ? 33 - shift / 2 : 30, "the axis 1", r -> r.colour(order, 1));
                    }
                }
            }
        });
    }

    // ---- promise 5

    private static void apart(Sentences s) {
        s.add(5, "entry: Throws IndexOutOfBoundsException if there is no such entry", c -> {
            c.range(DyeRing::new, 0, -1, Due.INDEX, "entry of none", (r, v) -> r.apart(v, 0));
            c.range(Rings::small, 0, 1, Due.INDEX, "entry of two", (r, v) -> r.apart(v, 0));
            c.range(Rings::fullBook, 0, 11, Due.INDEX, "entry of twelve", (r, v) -> r.apart(v, 11));
        });
        s.add(5, "other: Throws IndexOutOfBoundsException if there is no such entry, of either", c -> {
            c.range(DyeRing::new, 0, -1, Due.INDEX, "other of none", (r, v) -> r.apart(0, v));
            c.range(Rings::small, 0, 1, Due.INDEX, "other of two", (r, v) -> r.apart(0, v));
            c.range(Rings::fullBook, 0, 11, Due.INDEX, "other of twelve", (r, v) -> r.apart(11, v));
            c.refuses(Rings::small, Due.INDEX, "neither", r -> r.apart(2, -1));
        });
        s.add(5, "the difference on the axis 0 and that on the axis 1, together", c -> {
            int[] firsts = {0, 60, 0, 60, 30, 29, 31, 30, 30, 10, 45, 17};
            int[] seconds = {0, 60, 60, 0, 30, 30, 30, 29, 31, 45, 10, 44};
            DyeRing ring = new DyeRing();
            for (int i = 0; i < 12; i++) {
                ring.entry(firsts[i], seconds[i], 0);
            }
            for (int i = 0; i < 144; i++) {
                int one = i / 12;
                int other = i % 12;
                int first = Math.max(firsts[one], firsts[other]) - Math.min(firsts[one], firsts[other]);
                int second = Math.max(seconds[one], seconds[other]) - Math.min(seconds[one], seconds[other]);
                c.answers(ring, first + second, "apart", r -> r.apart(one, other));
            }
        });
        s.add(5, "the distance is 0 for the same colour and at most 120", c -> {
            DyeRing ring = new DyeRing();
            ring.entry(0, 0, 0);
            ring.entry(60, 60, 20);
            ring.entry(60, 60, 0);
            c.answers(ring, 0, "apart(0, 0)", r -> r.apart(0, 0));
            c.answers(ring, 0, "apart(1, 2)", r -> r.apart(1, 2));
            c.answers(ring, 120, "apart(0, 1)", r -> r.apart(0, 1));
            c.answers(ring, 120, "apart(2, 0)", r -> r.apart(2, 0));
        });
    }
}
