/** The promises 1 to 21 of ../shared/DOC.md, one by one; what is due was worked out by hand. */
public final class PromiseTest {
    private static final Due INDEX = Due.INDEX;
    private static final Due ARGUMENT = Due.ARGUMENT;
    private static final Due STATE = Due.STATE;
    private static final Due NO_ELEMENT = Due.NO_ELEMENT;
    private static final int[] NO_INDEX = {-1, Integer.MIN_VALUE, Integer.MAX_VALUE};

    private static final Checks checks = new Checks();

    public static void main(String[] args) {
        newObject();
        entry();
        water();
        yarn();
        apart();
        bath();
        freshen();
        strength();
        order();
        place();
        placeChooses();
        dye();
        claim();
        claimBlames();
        claimRemembers();
        stateOf();
        colour();
        colourByBath();
        blamed();
        shrinks();
        give();
        giveLimit();
        owes();
        position();
        net();
        netLargeDebt();
        checks.end("PromiseTest");
    }

    // ---- promise 1

    private static void newObject() {
        checks.begin("promise 1");
        DyeRing ring = new DyeRing();
        for (int dyer = 0; dyer < 3; dyer++) {
            int d = dyer;
            checks.answers(ring, 0, "water at first", r -> r.water(d, 0));
            for (int blame = 0; blame < 3; blame++) {
                int b = blame;
                checks.answers(ring, 0, "blamed at first", r -> r.blamed(d, b));
            }
        }
        for (int yarn = 0; yarn < 4; yarn++) {
            int y = yarn;
            checks.answers(ring, 0, "yarn at first", r -> r.yarn(y, 0, 0));
        }
        for (int cloth = 0; cloth < 3; cloth++) {
            int c = cloth;
            checks.answers(ring, 0, "shrinks at first", r -> r.shrinks(c, 0));
            checks.answers(ring, 0, "net at first", r -> r.net(c));
            for (int person = 0; person < 5; person++) {
                int p = person;
                checks.answers(ring, 0, "position at first", r -> r.position(p, c));
                for (int other = 0; other < 5; other++) {
                    int o = other;
                    checks.answers(ring, 0, "owes at first", r -> r.owes(p, o, c));
                }
            }
        }
        checks.refuses(DyeRing::new, INDEX, "apart without entries", r -> r.apart(0, 0));
        checks.refuses(DyeRing::new, INDEX, "strength without baths", r -> r.strength(0));
        checks.refuses(DyeRing::new, INDEX, "stateOf without orders", r -> r.stateOf(0));
        DyeRing other = Rings.small();
        checks.answers(other, 0, "a yarn's shift on the axis 1 at first", r -> r.dye(0, 0));
        checks.refuses(DyeRing::new, INDEX, "a ring beside a used one", r -> r.stateOf(0));
    }

    // ---- promise 2

    private static void entry() {
        checks.begin("promise 2");
        DyeRing ring = new DyeRing();
        checks.answers(ring, 0, "entry(0, 0, 0)", r -> r.entry(0, 0, 0));
        checks.answers(ring, 1, "entry(60, 60, 20)", r -> r.entry(60, 60, 20));
        checks.answers(ring, 2, "an entry of the same colour", r -> r.entry(60, 60, 20));
        checks.answers(ring, 120, "apart(0, 1)", r -> r.apart(0, 1));
        for (int number = 3; number < 12; number++) {
            checks.answers(ring, number, "the next entry", r -> r.entry(1, 2, 3));
        }
        checks.fails(ring, STATE, "a thirteenth", r -> r.entry(1, 2, 3));

        int[][] wrong = {{-1, 0, 0}, {61, 0, 0}, {0, -1, 0}, {0, 61, 0}, {0, 0, -1}, {0, 0, 21},
            {Integer.MIN_VALUE, 0, 0}, {0, Integer.MAX_VALUE, 0}, {0, 0, Integer.MAX_VALUE}};
        for (int[] w : wrong) {
            checks.refuses(Rings::small, ARGUMENT, "entry out of range", r -> r.entry(w[0], w[1], w[2]));
            checks.refuses(Rings::full, ARGUMENT, "entry out of range, full", r -> r.entry(w[0], w[1], w[2]));
        }
        checks.refuses(Rings::full, STATE, "entry, full", r -> r.entry(0, 0, 0));
    }

    // ---- promise 3

    private static void water() {
        checks.begin("promise 3");
        DyeRing ring = Rings.small();
        checks.answers(ring, 0, "water(2, 10)", r -> r.water(2, 10));
        checks.answers(ring, 10, "water(2, -10)", r -> r.water(2, -10));
        checks.answers(ring, -10, "water(2, 1)", r -> r.water(2, 1));
        checks.answers(ring, 0, "water(0, 4)", r -> r.water(0, 4));
        checks.answers(ring, 0, "water(1, -5)", r -> r.water(1, -5));
        checks.answers(ring, 4, "dye in dyer 0's bath", r -> r.dye(0, 0));
        checks.answers(ring, 54, "the shift is on the axis 0", r -> r.colour(0, 0));
        checks.answers(ring, 30, "and not on the axis 1", r -> r.colour(0, 1));

        for (int dyer : new int[] {-1, 3, Integer.MIN_VALUE, Integer.MAX_VALUE}) {
            checks.refuses(Rings::used, INDEX, "water, no dyer", r -> r.water(dyer, 1));
            checks.refuses(Rings::used, INDEX, "water, no dyer and no shift", r -> r.water(dyer, 11));
        }
        for (int shift : new int[] {-11, 11, Integer.MIN_VALUE, Integer.MAX_VALUE}) {
            checks.refuses(Rings::used, ARGUMENT, "water, no shift", r -> r.water(0, shift));
        }
    }

    // ---- promise 4

    private static void yarn() {
        checks.begin("promise 4");
        DyeRing ring = Rings.small();
        checks.answers(ring, 0, "yarn(3, 10, -10)", r -> r.yarn(3, 10, -10));
        checks.answers(ring, 10, "yarn(3, -10, 10)", r -> r.yarn(3, -10, 10));
        checks.answers(ring, -10, "yarn(3, 1, 2)", r -> r.yarn(3, 1, 2));
        checks.answers(ring, 0, "yarn(0, -3, 5)", r -> r.yarn(0, -3, 5));
        checks.answers(ring, 8, "dye yarn 0", r -> r.dye(0, 0));
        checks.answers(ring, 47, "its shift on the axis 0", r -> r.colour(0, 0));
        checks.answers(ring, 35, "its shift on the axis 1", r -> r.colour(0, 1));

        for (int yarn : new int[] {-1, 4, Integer.MIN_VALUE, Integer.MAX_VALUE}) {
            checks.refuses(Rings::used, INDEX, "yarn, no yarn", r -> r.yarn(yarn, 1, 1));
            checks.refuses(Rings::used, INDEX, "yarn, no yarn and no shift", r -> r.yarn(yarn, 11, 11));
        }
        for (int shift : new int[] {-11, 11, Integer.MIN_VALUE, Integer.MAX_VALUE}) {
            checks.refuses(Rings::used, ARGUMENT, "yarn, no first", r -> r.yarn(1, shift, 0));
            checks.refuses(Rings::used, ARGUMENT, "yarn, no second", r -> r.yarn(1, 0, shift));
        }
        refusedYarnKeepsBothShifts();
    }

    private static void refusedYarnKeepsBothShifts() {
        DyeRing ring = Rings.small();
        ring.yarn(0, 1, 2);
        checks.fails(ring, ARGUMENT, "yarn(0, 5, 11)", r -> r.yarn(0, 5, 11));
        checks.fails(ring, ARGUMENT, "yarn(0, 11, 5)", r -> r.yarn(0, 11, 5));
        checks.answers(ring, 3, "dye after refused yarns", r -> r.dye(0, 0));
        checks.answers(ring, 51, "colour(0, 0) after refused yarns", r -> r.colour(0, 0));
        checks.answers(ring, 32, "colour(0, 1) after refused yarns", r -> r.colour(0, 1));
    }

    // ---- promise 5

    private static void apart() {
        checks.begin("promise 5");
        DyeRing ring = new DyeRing();
        ring.entry(10, 50, 0);
        ring.entry(13, 45, 0);
        ring.entry(60, 0, 0);
        ring.entry(0, 60, 0);
        checks.answers(ring, 8, "apart(0, 1)", r -> r.apart(0, 1));
        checks.answers(ring, 8, "apart(1, 0)", r -> r.apart(1, 0));
        checks.answers(ring, 0, "apart(1, 1)", r -> r.apart(1, 1));
        checks.answers(ring, 120, "apart(2, 3)", r -> r.apart(2, 3));
        checks.answers(ring, 100, "apart(0, 2)", r -> r.apart(0, 2));
        for (int entry : new int[] {-1, 2, Integer.MIN_VALUE, Integer.MAX_VALUE}) {
            checks.refuses(Rings::small, INDEX, "apart, no entry", r -> r.apart(entry, 0));
            checks.refuses(Rings::small, INDEX, "apart, no other", r -> r.apart(0, entry));
        }
        checks.refuses(Rings::full, INDEX, "apart(12, 0)", r -> r.apart(12, 0));
        checks.refuses(Rings::full, INDEX, "apart(0, 12)", r -> r.apart(0, 12));
    }

    // ---- promise 6

    private static void bath() {
        checks.begin("promise 6");
        DyeRing ring = new DyeRing();
        ring.entry(50, 30, 6);
        for (int number = 0; number < 10; number++) {
            int dyer = number % 3;
            checks.answers(ring, number, "the next bath", r -> r.bath(dyer, 0));
        }
        checks.answers(ring, 100, "a fresh bath's strength", r -> r.strength(9));
        checks.fails(ring, STATE, "an eleventh", r -> r.bath(0, 0));

        for (int none : NO_INDEX) {
            checks.refuses(Rings::small, INDEX, "bath, no dyer", r -> r.bath(none, 0));
            checks.refuses(Rings::small, INDEX, "bath, no entry", r -> r.bath(0, none));
            checks.refuses(Rings::full, INDEX, "bath, no dyer, full", r -> r.bath(none, 0));
            checks.refuses(Rings::full, INDEX, "bath, no entry, full", r -> r.bath(0, none));
        }
        checks.refuses(Rings::small, INDEX, "bath(3, 0)", r -> r.bath(3, 0));
        checks.refuses(Rings::small, INDEX, "bath(0, 2)", r -> r.bath(0, 2));
        checks.refuses(Rings::full, INDEX, "bath(3, 0), full", r -> r.bath(3, 0));
        checks.refuses(Rings::full, INDEX, "bath(0, 12), full", r -> r.bath(0, 12));
        checks.refuses(Rings::full, STATE, "bath, full", r -> r.bath(2, 11));
    }

    // ---- promise 7

    private static void freshen() {
        checks.begin("promise 7");
        DyeRing ring = Rings.used();
        checks.answers(ring, 60, "freshen(0)", r -> r.freshen(0));
        checks.answers(ring, 100, "strength(0)", r -> r.strength(0));
        checks.answers(ring, 60, "the other bath's strength", r -> r.strength(1));
        checks.answers(ring, 100, "freshen(0) again", r -> r.freshen(0));
        ring.dye(0, 0);
        checks.answers(ring, 90, "freshen(0) after a piece", r -> r.freshen(0));
        checks.answers(ring, 59, "a piece's colour stays", r -> r.colour(2, 0));
        for (int bath : new int[] {-1, 2, Integer.MIN_VALUE, Integer.MAX_VALUE}) {
            checks.refuses(Rings::used, INDEX, "freshen, no bath", r -> r.freshen(bath));
        }
        checks.refuses(Rings::full, INDEX, "freshen(10)", r -> r.freshen(10));
    }

    // ---- promise 8

    private static void strength() {
        checks.begin("promise 8");
        DyeRing ring = new DyeRing();
        ring.entry(50, 30, 6);
        ring.bath(0, 0);
        int[] weights = {40, 39, 20, 1, 5};
        int[] left = {60, 21, 1, 0, 0};
        checks.answers(ring, 100, "strength at first", r -> r.strength(0));
        for (int i = 0; i < weights.length; i++) {
            int order = ring.order(0, weights[i], 0);
            checks.answers(ring, i == 0 ? 100 : left[i - 1], "strength after an order alone", r -> r.strength(0));
            ring.dye(order, 0);
            checks.answers(ring, left[i], "strength after a piece", r -> r.strength(0));
        }
        ring.freshen(0);
        for (int i = 0; i < 3; i++) {
            ring.dye(ring.order(0, 40, 0), 0);
        }
        checks.answers(ring, 0, "strength after more weight than was left", r -> r.strength(0));
        for (int bath : new int[] {-1, 2, Integer.MIN_VALUE, Integer.MAX_VALUE}) {
            checks.refuses(Rings::used, INDEX, "strength, no bath", r -> r.strength(bath));
        }
        checks.refuses(Rings::full, INDEX, "strength(10)", r -> r.strength(10));
    }

    // ---- promise 9

    private static void order() {
        checks.begin("promise 9");
        DyeRing ring = new DyeRing();
        ring.entry(50, 30, 6);
        checks.answers(ring, 0, "order(0, 1, 0)", r -> r.order(0, 1, 0));
        checks.answers(ring, 1, "order(0, 40, 3)", r -> r.order(0, 40, 3));
        checks.answers(ring, 0, "stateOf(1)", r -> r.stateOf(1));
        for (int number = 2; number < 40; number++) {
            checks.answers(ring, number, "the next order", r -> r.order(0, 7, 1));
        }
        checks.fails(ring, STATE, "a forty-first", r -> r.order(0, 7, 1));

        for (int none : NO_INDEX) {
            checks.refuses(Rings::small, INDEX, "order, no entry", r -> r.order(none, 1, 0));
            checks.refuses(Rings::small, INDEX, "order, no yarn", r -> r.order(0, 1, none));
            checks.refuses(Rings::full, INDEX, "order, no entry, nothing else either", r -> r.order(none, 0, 0));
            checks.refuses(Rings::full, INDEX, "order, no yarn, nothing else either", r -> r.order(0, 41, none));
        }
        checks.refuses(Rings::small, INDEX, "order(2, 1, 0)", r -> r.order(2, 1, 0));
        checks.refuses(Rings::small, INDEX, "order(0, 1, 4)", r -> r.order(0, 1, 4));
        for (int weight : new int[] {0, -1, 41, Integer.MIN_VALUE, Integer.MAX_VALUE}) {
            checks.refuses(Rings::small, ARGUMENT, "order, no weight", r -> r.order(0, weight, 0));
            checks.refuses(Rings::full, ARGUMENT, "order, no weight, full", r -> r.order(0, weight, 0));
        }
        checks.refuses(Rings::full, STATE, "order, full", r -> r.order(11, 40, 3));
    }

    // ---- promise 10

    private static void place() {
        checks.begin("promise 10");
        DyeRing ring = Rings.small();
        checks.answers(ring, 0, "of two fresh baths the lowest", r -> r.place(0));
        checks.answers(ring, 90, "strength(0)", r -> r.strength(0));
        checks.answers(ring, 100, "strength(1)", r -> r.strength(1));
        checks.answers(ring, 1, "stateOf(0)", r -> r.stateOf(0));
        checks.fails(ring, STATE, "place(0) again", r -> r.place(0));
        checks.answers(ring, 90, "strength(0) after a refused place", r -> r.strength(0));

        for (int order : new int[] {-1, 5, Integer.MIN_VALUE, Integer.MAX_VALUE}) {
            checks.refuses(Rings::used, INDEX, "place, no order", r -> r.place(order));
        }
        checks.refuses(Rings::full, INDEX, "place(40)", r -> r.place(40));
        checks.refuses(Rings::used, STATE, "place a claimed one", r -> r.place(2));
        checks.refuses(Rings::used, STATE, "place a dyed one", r -> r.place(3));
        checks.refuses(Rings::used, NO_ELEMENT, "place without a bath for its entry", r -> r.place(1));
        checks.refuses(() -> Rings.piece(50, 30, 0, 0, 0, 0, 0), STATE, "a dyed one that no bath suits",
                r -> r.place(0));
        checks.refuses(PromiseTest::waitingBeforeOffBath, NO_ELEMENT, "place without a right bath", r -> r.place(0));
    }

    /** Its one bath is just one step further from the entry than the tolerance allows. */
    private static DyeRing waitingBeforeOffBath() {
        DyeRing ring = new DyeRing();
        ring.entry(50, 30, 6);
        ring.bath(0, 0);
        ring.water(0, 4);
        ring.yarn(2, 0, -3);
        ring.order(0, 5, 2);
        return ring;
    }

    private static void placeChooses() {
        DyeRing ring = new DyeRing();
        ring.entry(50, 30, 8);
        ring.entry(50, 30, 8);
        int[] dyers = {0, 1, 1, 2, 0};
        int[] lost = {0, 10, 10, 40, 5};
        for (int i = 0; i < dyers.length; i++) {
            ring.bath(dyers[i], i == 4 ? 1 : 0);
            if (lost[i] > 0) {
                ring.dye(ring.order(i == 4 ? 1 : 0, lost[i], 0), i);
            }
        }
        // bath 3, of strength 60, gives (30, 18): it is the weakest one, but not right;
        // the baths 1 and 2, of strength 90, give (45, 27), at the distance 8
        int first = ring.order(0, 3, 0);
        checks.answers(ring, 1, "the weakest right bath, the lowest of two", r -> r.place(first));
        // bath 1, of strength 87, gives (43, 26) now, at the distance 11
        int second = ring.order(0, 3, 0);
        checks.answers(ring, 2, "the next one", r -> r.place(second));
        int third = ring.order(0, 1, 0);
        checks.answers(ring, 0, "the strong one when no other is right", r -> r.place(third));
        // with 7 more on the axis 0, bath 1 gives (50, 26): at the distance 4, as weak as bath 2
        ring.water(1, 7);
        int fourth = ring.order(0, 2, 0);
        checks.answers(ring, 1, "water makes a bath right", r -> r.place(fourth));
        checks.answers(ring, 50, "its colour on the axis 0", r -> r.colour(fourth, 0));
        checks.answers(ring, 26, "its colour on the axis 1", r -> r.colour(fourth, 1));
        // the yarn 1 takes bath 1, of strength 85, from (49, 25) to (39, 25); bath 0 gives (39, 29)
        ring.yarn(1, -10, 0);
        int fifth = ring.order(0, 2, 1);
        checks.fails(ring, NO_ELEMENT, "yarn makes all wrong", r -> r.place(fifth));
        checks.answers(ring, 0, "and the order waits on", r -> r.stateOf(fifth));
        int sixth = ring.order(1, 2, 0);
        checks.answers(ring, 4, "an entry of the same colour has its own bath", r -> r.place(sixth));
        placeInEmptyBath();
    }

    private static void placeInEmptyBath() {
        DyeRing ring = new DyeRing();
        ring.entry(5, 5, 10);
        ring.bath(0, 0);
        ring.bath(0, 0);
        for (int i = 0; i < 3; i++) {
            ring.dye(ring.order(0, 40, 0), 1);
        }
        int order = ring.order(0, 40, 0);
        checks.answers(ring, 1, "a bath without strength may be right", r -> r.place(order));
        checks.answers(ring, 0, "and stays without", r -> r.strength(1));
        checks.answers(ring, 0, "the colour is the shifts alone", r -> r.colour(order, 0));
    }

    // ---- promise 11

    private static void dye() {
        checks.begin("promise 11");
        DyeRing ring = Rings.used();
        ring.water(0, -2);
        ring.yarn(0, -4, 3);
        // bath 0, of strength 60, gives (30, 18): (24, 21) with the shifts, against (50, 30)
        checks.answers(ring, 35, "dye(0, 0)", r -> r.dye(0, 0));
        checks.answers(ring, 50, "strength(0)", r -> r.strength(0));
        checks.answers(ring, 1, "stateOf(0)", r -> r.stateOf(0));
        checks.answers(ring, 24, "colour(0, 0)", r -> r.colour(0, 0));
        checks.answers(ring, 21, "colour(0, 1)", r -> r.colour(0, 1));
        checks.answers(Rings.small(), 0, "dye in a bath that is just right", r -> r.dye(0, 1));

        for (int none : NO_INDEX) {
            checks.refuses(Rings::used, INDEX, "dye, no order", r -> r.dye(none, 0));
            checks.refuses(Rings::used, INDEX, "dye, no bath", r -> r.dye(0, none));
        }
        checks.refuses(Rings::used, INDEX, "dye(5, 0)", r -> r.dye(5, 0));
        checks.refuses(Rings::used, INDEX, "dye(0, 2)", r -> r.dye(0, 2));
        checks.refuses(Rings::used, INDEX, "a dyed order, no bath", r -> r.dye(3, 2));
        checks.refuses(Rings::used, ARGUMENT, "dye, a bath for another entry", r -> r.dye(1, 0));
        checks.refuses(Rings::used, STATE, "dye a claimed one", r -> r.dye(2, 0));
        checks.refuses(Rings::used, STATE, "dye a dyed one", r -> r.dye(3, 0));
        checks.refuses(Rings::usedWithOtherBaths, ARGUMENT, "dyed, a bath for another entry", r -> r.dye(3, 2));
        checks.refuses(Rings::usedWithOtherBaths, ARGUMENT, "an entry of the same colour", r -> r.dye(0, 3));
        roundsDown();
    }

    private static void roundsDown() {
        DyeRing ring = new DyeRing();
        ring.entry(59, 33, 20);
        ring.bath(0, 0);
        ring.dye(ring.order(0, 1, 0), 0);
        ring.yarn(0, -10, -10);
        ring.order(0, 1, 0);
        // 59 * 99 / 100 is 58.41, 33 * 99 / 100 is 32.67
        checks.answers(ring, 22, "dye at the strength 99", r -> r.dye(1, 0));
        checks.answers(ring, 48, "rounded down on the axis 0", r -> r.colour(1, 0));
        checks.answers(ring, 22, "rounded down on the axis 1", r -> r.colour(1, 1));
    }

    // ---- promise 12

    private static void claim() {
        checks.begin("promise 12");
        DyeRing ring = Rings.used();
        // order 3 has the colour (38, 40) in bath 1: at the distance 22; without the yarn (47, 30)
        checks.answers(ring, 2, "claim(3)", r -> r.claim(3));
        checks.answers(ring, 2, "stateOf(3)", r -> r.stateOf(3));
        checks.fails(ring, STATE, "claim(3) again", r -> r.claim(3));
        checks.answers(ring, 1, "blamed(1, YARN)", r -> r.blamed(1, 2));
        for (int order : new int[] {-1, 5, Integer.MIN_VALUE, Integer.MAX_VALUE}) {
            checks.refuses(Rings::used, INDEX, "claim, no order", r -> r.claim(order));
        }
        checks.refuses(Rings::used, STATE, "claim a waiting one", r -> r.claim(0));
        checks.refuses(Rings::used, STATE, "claim a claimed one", r -> r.claim(2));
        checks.refuses(() -> Rings.piece(50, 30, 6, 0, 4, 0, 2), STATE, "claim at just the tolerance", r -> r.claim(0));
        checks.refuses(() -> Rings.piece(50, 30, 0, 0, 0, 0, 0), STATE, "claim what is just right", r -> r.claim(0));
        checks.answers(Rings.piece(50, 30, 6, 0, 4, 0, 3), 1, "claim just above the tolerance", r -> r.claim(0));
        checks.answers(Rings.piece(50, 30, 0, 0, 0, -1, 0), 2, "claim at the tolerance 0", r -> r.claim(0));
    }

    private static void claimBlames() {
        // (40, 24) at the strength 80, with the water (37, 24): the bath's lack is the most
        checks.answers(Rings.piece(50, 30, 6, 20, -3, 0, 0), 0, "the bath's lack", r -> r.claim(0));
        // (50, 30) and 9 on the axis 0
        checks.answers(Rings.piece(50, 30, 6, 0, 9, 0, 0), 1, "the water's shift", r -> r.claim(0));
        // (50, 30), yarn (4, 4) and water 5: 13 off; 13 with a fresh bath, 8 without the water, 5 without the yarn
        checks.answers(Rings.piece(50, 30, 6, 0, 5, 4, 4), 2, "the yarn's shift on both axes", r -> r.claim(0));
        // (48, 29) at the strength 97, of the yarn (55, 29): 6 off; fresh 7, without the water 6, without the yarn 3
        checks.answers(Rings.piece(50, 30, 5, 3, 0, 7, 0), 2, "a weak bath that mends a shift", r -> r.claim(0));
        // water 5, yarn 5: 10 off, fresh 10, without the water 5, without the yarn 5
        checks.answers(Rings.piece(50, 30, 6, 0, 5, 5, 0), 1, "water before yarn", r -> r.claim(0));
        checks.answers(Rings.piece(50, 30, 6, 0, -5, -5, 0), 1, "water before yarn, below 0", r -> r.claim(0));
        // water -5, yarn -6: 11 off, without the water 6, without the yarn 5
        checks.answers(Rings.piece(50, 30, 6, 0, -5, -6, 0), 2, "the yarn by one, below 0", r -> r.claim(0));
        checks.answers(Rings.piece(50, 30, 6, 0, 5, 6, 0), 2, "the yarn by one", r -> r.claim(0));
        checks.answers(Rings.piece(50, 30, 6, 0, 6, 5, 0), 1, "the water by one", r -> r.claim(0));
        // (45, 27) at the strength 90, water 0, yarn (-4, -4): 16 off, fresh 8, without the yarn 8
        checks.answers(Rings.piece(50, 30, 6, 10, 0, -4, -4), 0, "bath before yarn", r -> r.claim(0));
        // (45, 30) at the strength 90, without a second axis, water -5: 10 off, fresh 5, without the water 5
        checks.answers(Rings.piece(50, 0, 6, 10, -5, 0, 0), 0, "bath before water", r -> r.claim(0));
        // water 8 and yarn -8 take each other away; the yarn's 9 on the axis 1 stays
        checks.answers(Rings.piece(50, 30, 6, 0, 8, -8, 9), 2, "without the yarn 8, fresh 9, without the water 17",
                r -> r.claim(0));
        // strength 0: water 10, yarn (10, 10): (20, 10) against (60, 60), fresh (80, 70)
        checks.answers(Rings.piece(60, 60, 20, 120, 10, 10, 10), 0, "an empty bath", r -> r.claim(0));
        // (0, 0) with water -10 and yarn (-10, -10): without the water 20, without the yarn 10
        checks.answers(Rings.piece(0, 0, 20, 0, -10, -10, -10), 2, "colours below 0", r -> r.claim(0));
    }

    /** What is to blame does not change with what is set after the dyeing. */
    private static void claimRemembers() {
        DyeRing ring = Rings.piece(50, 30, 6, 0, 9, 1, 0);
        ring.water(0, 0);
        ring.yarn(0, 10, 10);
        ring.dye(ring.order(0, 40, 0), 0);
        checks.answers(ring, 1, "water as it was then", r -> r.claim(0));
        DyeRing other = Rings.piece(50, 30, 6, 0, 1, 9, 1);
        other.water(0, 10);
        other.yarn(0, 0, 0);
        checks.answers(other, 2, "yarn as it was then", r -> r.claim(0));
        DyeRing weak = Rings.piece(50, 30, 6, 40, 5, 0, 0);
        weak.freshen(0);
        checks.answers(weak, 0, "strength as it was then", r -> r.claim(0));
        DyeRing right = Rings.piece(50, 30, 6, 0, 0, 0, 0);
        right.water(0, 10);
        right.yarn(0, 10, 10);
        checks.fails(right, STATE, "a piece that was right stays so", r -> r.claim(0));
    }

    // ---- promise 13

    private static void stateOf() {
        checks.begin("promise 13");
        DyeRing ring = Rings.used();
        checks.answers(ring, DyeRing.WAITING, "stateOf(0)", r -> r.stateOf(0));
        checks.answers(ring, DyeRing.CLAIMED, "stateOf(2)", r -> r.stateOf(2));
        checks.answers(ring, DyeRing.DYED, "stateOf(3)", r -> r.stateOf(3));
        ring.freshen(1);
        ring.place(4);
        checks.answers(ring, DyeRing.DYED, "stateOf(4) when it is placed", r -> r.stateOf(4));
        Checks.outcome(ring, r -> r.claim(4));
        checks.answers(ring, DyeRing.DYED, "stateOf(4) after a refused claim", r -> r.stateOf(4));
        for (int order : new int[] {-1, 5, Integer.MIN_VALUE, Integer.MAX_VALUE}) {
            checks.refuses(Rings::used, INDEX, "stateOf, no order", r -> r.stateOf(order));
        }
        checks.refuses(Rings::full, INDEX, "stateOf(40)", r -> r.stateOf(40));
        checks.same("the constants", DyeRing.NONE + " " + DyeRing.WAITING + DyeRing.DYED + DyeRing.CLAIMED + " "
                + DyeRing.BATH + DyeRing.WATER + DyeRing.YARN, "-1 012 012");
    }

    // ---- promise 14

    private static void colour() {
        checks.begin("promise 14");
        DyeRing ring = Rings.used();
        checks.answers(ring, 59, "colour(2, 0)", r -> r.colour(2, 0));
        checks.answers(ring, 28, "colour(2, 1)", r -> r.colour(2, 1));
        checks.answers(ring, 38, "colour(3, 0)", r -> r.colour(3, 0));
        checks.answers(ring, 40, "colour(3, 1)", r -> r.colour(3, 1));
        ring.water(0, -10);
        ring.water(1, -10);
        ring.yarn(1, -10, -10);
        ring.yarn(2, -10, -10);
        ring.freshen(0);
        ring.claim(3);
        checks.answers(ring, 59, "colour(2, 0) for ever", r -> r.colour(2, 0));
        checks.answers(ring, 28, "colour(2, 1) for ever", r -> r.colour(2, 1));
        checks.answers(ring, 38, "colour(3, 0) of a claimed one", r -> r.colour(3, 0));
        DyeRing dark = Rings.piece(0, 0, 20, 0, -10, -10, -10);
        checks.answers(dark, -20, "a colour below 0 on the axis 0", r -> r.colour(0, 0));
        checks.answers(dark, -10, "a colour below 0 on the axis 1", r -> r.colour(0, 1));
        DyeRing bright = Rings.piece(60, 60, 20, 0, 10, 10, 10);
        checks.answers(bright, 80, "a colour above 60 on the axis 0", r -> r.colour(0, 0));
        checks.answers(bright, 70, "a colour above 60 on the axis 1", r -> r.colour(0, 1));
        refusesColour("colour", DyeRing::colour);
    }

    /** The two calls that tell a piece's colour refuse alike. */
    private interface ColourCall {
        int of(DyeRing ring, int order, int axis);
    }

    private static void refusesColour(String name, ColourCall call) {
        for (int none : NO_INDEX) {
            checks.refuses(Rings::used, INDEX, name + ", no order", r -> call.of(r, none, 0));
            checks.refuses(Rings::used, INDEX, name + ", no axis", r -> call.of(r, 2, none));
        }
        checks.refuses(Rings::used, INDEX, name + "(5, 0)", r -> call.of(r, 5, 0));
        checks.refuses(Rings::used, INDEX, name + "(2, 2)", r -> call.of(r, 2, 2));
        checks.refuses(Rings::used, INDEX, name + ", waiting, no axis", r -> call.of(r, 0, 2));
        checks.refuses(Rings::used, STATE, name + ", waiting", r -> call.of(r, 0, 0));
        checks.refuses(Rings::used, STATE, name + ", waiting", r -> call.of(r, 1, 1));
    }

    // ---- promise 15

    private static void colourByBath() {
        checks.begin("promise 15");
        DyeRing ring = new DyeRing();
        ring.entry(50, 30, 6);
        ring.bath(0, 0);
        ring.bath(1, 0);
        int[] weights = {40, 30, 20, 10, 40, 5, 40, 40, 40, 1};
        for (int weight : weights) {
            ring.order(0, weight, 0);
        }
        ring.freshen(0);
        int[] turns = {7, 0, 9, 2, 1, 8, 4, 6, 5, 3};
        int[] strengths = {100, 60, 20, 19, 100, 70, 100, 100, 60, 55};
        for (int i = 0; i < turns.length; i++) {
            if (i == 4 || i == 6) {
                ring.freshen(0);
                ring.freshen(0);
            }
            int turn = turns[i];
            ring.water(0, i - 5);
            ring.yarn(0, 5 - 2 * i % 10, i);
            ring.dye(turn, i == 7 ? 1 : 0);
        }
        ring.freshen(0);
        ring.water(0, 10);
        ring.yarn(0, 10, 10);
        for (int i = 0; i < turns.length; i++) {
            int turn = turns[i];
            int first = 50 * strengths[i] / 100 + (i == 7 ? 0 : i - 5) + 5 - 2 * i % 10;
            int second = 30 * strengths[i] / 100 + i;
            checks.answers(ring, first, "colourByBath(" + turn + ", 0)", r -> r.colourByBath(turn, 0));
            checks.answers(ring, second, "colourByBath(" + turn + ", 1)", r -> r.colourByBath(turn, 1));
            checks.answers(ring, first, "colour(" + turn + ", 0)", r -> r.colour(turn, 0));
            checks.answers(ring, second, "colour(" + turn + ", 1)", r -> r.colour(turn, 1));
        }
        DyeRing claimed = Rings.used();
        checks.answers(claimed, 59, "colourByBath(2, 0) of a claimed one", r -> r.colourByBath(2, 0));
        DyeRing empty = Rings.piece(60, 60, 20, 120, -10, -10, 10);
        checks.answers(empty, -20, "colourByBath(0, 0) of an empty bath", r -> r.colourByBath(0, 0));
        checks.answers(empty, 10, "colourByBath(0, 1) of an empty bath", r -> r.colourByBath(0, 1));
        refusesColour("colourByBath", DyeRing::colourByBath);
    }

    // ---- promise 16

    private static void blamed() {
        checks.begin("promise 16");
        DyeRing ring = new DyeRing();
        ring.entry(50, 30, 6);
        ring.bath(2, 0);
        ring.bath(1, 0);
        ring.bath(2, 0);
        ring.yarn(1, 10, 10);
        ring.water(1, 10);
        int[] yarns = {1, 1, 0, 0};
        int[] baths = {0, 2, 1, 1};
        for (int i = 0; i < baths.length; i++) {
            int order = ring.order(0, 40, yarns[i]);
            ring.dye(order, baths[i]);
        }
        checks.answers(ring, 0, "blamed(2, YARN) before a claim", r -> r.blamed(2, 2));
        ring.claim(0);
        ring.claim(1);
        ring.claim(2);
        ring.claim(3);
        int[][] want = {{0, 0, 0}, {1, 1, 0}, {0, 0, 2}};
        for (int dyer = 0; dyer < 3; dyer++) {
            for (int blame = 0; blame < 3; blame++) {
                int d = dyer;
                int b = blame;
                checks.answers(ring, want[d][b], "blamed(" + d + ", " + b + ")", r -> r.blamed(d, b));
            }
        }
        Checks.outcome(ring, r -> r.claim(0));
        checks.answers(ring, 2, "blamed(2, YARN) after a refused claim", r -> r.blamed(2, 2));
        for (int dyer : new int[] {-1, 3, Integer.MIN_VALUE, Integer.MAX_VALUE}) {
            checks.refuses(Rings::used, INDEX, "blamed, no dyer", r -> r.blamed(dyer, 0));
            checks.refuses(Rings::used, INDEX, "blamed, no dyer and no blame", r -> r.blamed(dyer, 3));
        }
        for (int blame : new int[] {-1, 3, Integer.MIN_VALUE, Integer.MAX_VALUE}) {
            checks.refuses(Rings::used, ARGUMENT, "blamed, no blame", r -> r.blamed(0, blame));
        }
    }

    // ---- promise 17

    private static void shrinks() {
        checks.begin("promise 17");
        DyeRing ring = new DyeRing();
        ring.give(0, 1, 1, 100);
        checks.answers(ring, 0, "shrinks(1, 90)", r -> r.shrinks(1, 90));
        checks.answers(ring, 100, "what was given before", r -> r.owes(1, 0, 1));
        checks.answers(ring, 110, "what is given then", r -> r.give(0, 1, 1, 100));
        checks.answers(ring, 100, "another cloth", r -> r.give(0, 1, 2, 100));
        checks.answers(ring, 90, "shrinks(1, 0)", r -> r.shrinks(1, 0));
        checks.answers(ring, 210, "what is given after that", r -> r.give(0, 1, 1, 100));
        checks.answers(ring, 0, "shrinks(0, 33)", r -> r.shrinks(0, 33));
        checks.answers(ring, 33, "shrinks(0, 33) again", r -> r.shrinks(0, 33));
        for (int cloth : new int[] {-1, 3, Integer.MIN_VALUE, Integer.MAX_VALUE}) {
            checks.refuses(Rings::used, INDEX, "shrinks, no cloth", r -> r.shrinks(cloth, 1));
            checks.refuses(Rings::used, INDEX, "shrinks, no cloth, no share", r -> r.shrinks(cloth, 91));
        }
        for (int hundredths : new int[] {-1, 91, Integer.MIN_VALUE, Integer.MAX_VALUE}) {
            checks.refuses(Rings::used, ARGUMENT, "shrinks, no share", r -> r.shrinks(0, hundredths));
        }
    }

    // ---- promise 18

    private static void give() {
        checks.begin("promise 18");
        DyeRing ring = new DyeRing();
        checks.answers(ring, 1, "give(0, 1, 0, 1)", r -> r.give(0, 1, 0, 1));
        checks.answers(ring, 1001, "give(0, 1, 0, 1000)", r -> r.give(0, 1, 0, 1000));
        checks.answers(ring, 7, "give(1, 0, 0, 7)", r -> r.give(1, 0, 0, 7));
        checks.answers(ring, 1001, "debts both ways stay", r -> r.owes(1, 0, 0));
        checks.answers(ring, 5, "give(4, 3, 2, 5)", r -> r.give(4, 3, 2, 5));
        ring.shrinks(1, 7);
        checks.answers(ring, 93, "100 less 7", r -> r.give(2, 3, 1, 100));
        checks.answers(ring, 93, "1 less 0.07, rounded up to 1", r -> r.give(2, 3, 1, 1));
        checks.answers(ring, 185, "99 less 6.93, rounded up to 7", r -> r.give(2, 3, 1, 99));
        checks.answers(ring, 278, "101 less 7.07, rounded up to 8", r -> r.give(2, 3, 1, 101));
        ring.shrinks(1, 90);
        checks.answers(ring, 279, "10 less 9", r -> r.give(2, 3, 1, 10));
        checks.answers(ring, 379, "1000 less 900", r -> r.give(2, 3, 1, 1000));
        checks.answers(ring, 0, "what shrinks away", r -> r.give(3, 2, 1, 1));

        for (int none : new int[] {-1, 5, Integer.MIN_VALUE, Integer.MAX_VALUE}) {
            checks.refuses(Rings::used, INDEX, "give, no person", r -> r.give(none, 0, 0, 1));
            checks.refuses(Rings::used, INDEX, "give, nobody to give to", r -> r.give(0, none, 0, 1));
            checks.refuses(Rings::used, INDEX, "give, none to none", r -> r.give(none, none, 0, 0));
        }
        for (int cloth : new int[] {-1, 3, Integer.MIN_VALUE, Integer.MAX_VALUE}) {
            checks.refuses(Rings::used, INDEX, "give, no cloth", r -> r.give(0, 1, cloth, 1));
            checks.refuses(Rings::used, INDEX, "give, no cloth, to oneself", r -> r.give(1, 1, cloth, 0));
        }
        for (int person = 0; person < 5; person++) {
            int p = person;
            checks.refuses(Rings::used, ARGUMENT, "give to oneself", r -> r.give(p, p, 0, 1));
        }
        for (int length : new int[] {0, -1, 1001, Integer.MIN_VALUE, Integer.MAX_VALUE}) {
            checks.refuses(Rings::used, ARGUMENT, "give, no length", r -> r.give(0, 1, 0, length));
        }
    }

    private static void giveLimit() {
        DyeRing ring = Rings.deepInDebt(0);
        checks.answers(ring, 100000, "owes just the limit", r -> r.owes(1, 0, 0));
        checks.answers(ring, 1, "the other way there is room", r -> r.give(1, 0, 0, 1));
        checks.answers(ring, 1, "in another cloth too", r -> r.give(0, 1, 1, 1));
        checks.answers(ring, 1, "and for another person", r -> r.give(0, 2, 0, 1));
        checks.answers(ring, 1, "and from another person", r -> r.give(2, 1, 0, 1));
        ring.shrinks(0, 1);
        checks.answers(ring, 100000, "what shrinks away is not too much", r -> r.give(0, 1, 0, 1));
        checks.fails(ring, STATE, "one that is left is", r -> r.give(0, 1, 0, 2));
        checks.refuses(() -> Rings.deepInDebt(0), STATE, "give(0, 1, 0, 1)", r -> r.give(0, 1, 0, 1));
        checks.refuses(() -> Rings.deepInDebt(0), STATE, "give(0, 1, 0, 1000)", r -> r.give(0, 1, 0, 1000));
        checks.refuses(() -> Rings.deepInDebt(0), ARGUMENT, "no length, deep in debt", r -> r.give(0, 1, 0, 1001));
        checks.refuses(() -> Rings.deepInDebt(0), INDEX, "no cloth, deep in debt", r -> r.give(0, 1, 3, 1000));
    }

    // ---- promise 19

    private static void owes() {
        checks.begin("promise 19");
        DyeRing ring = Rings.used();
        checks.answers(ring, 930, "owes(1, 0, 0)", r -> r.owes(1, 0, 0));
        checks.answers(ring, 0, "owes(0, 1, 0)", r -> r.owes(0, 1, 0));
        checks.answers(ring, 309, "owes(2, 1, 0)", r -> r.owes(2, 1, 0));
        checks.answers(ring, 7, "owes(4, 3, 1)", r -> r.owes(4, 3, 1));
        checks.answers(ring, 5, "owes(3, 4, 2)", r -> r.owes(3, 4, 2));
        checks.answers(ring, 0, "owes(4, 3, 2)", r -> r.owes(4, 3, 2));
        for (int person = 0; person < 5; person++) {
            int p = person;
            checks.answers(ring, 0, "owes to oneself", r -> r.owes(p, p, 0));
        }
        for (int none : new int[] {-1, 5, Integer.MIN_VALUE, Integer.MAX_VALUE}) {
            checks.refuses(Rings::used, INDEX, "owes, no person", r -> r.owes(none, 0, 0));
            checks.refuses(Rings::used, INDEX, "owes, no other", r -> r.owes(0, none, 0));
            checks.refuses(Rings::used, INDEX, "owes, none to none", r -> r.owes(none, none, 0));
        }
        for (int cloth : new int[] {-1, 3, Integer.MIN_VALUE, Integer.MAX_VALUE}) {
            checks.refuses(Rings::used, INDEX, "owes, no cloth", r -> r.owes(1, 0, cloth));
            checks.refuses(Rings::used, INDEX, "owes oneself, no cloth", r -> r.owes(1, 1, cloth));
        }
    }

    // ---- promise 20

    private static void position() {
        checks.begin("promise 20");
        DyeRing ring = Rings.used();
        int[][] want = {{930, -621, -309, 0, 0}, {0, 0, 0, 7, -7}, {0, 0, 0, -5, 5}};
        for (int cloth = 0; cloth < 3; cloth++) {
            for (int person = 0; person < 5; person++) {
                int c = cloth;
                int p = person;
                checks.answers(ring, want[c][p], "position(" + p + ", " + c + ")", r -> r.position(p, c));
            }
        }
        ring.shrinks(0, 0);
        ring.give(4, 0, 0, 30);
        ring.give(0, 4, 0, 10);
        checks.answers(ring, 910, "position(0, 0) with debts both ways", r -> r.position(0, 0));
        checks.answers(ring, 20, "position(4, 0) with debts both ways", r -> r.position(4, 0));
        for (int person : new int[] {-1, 5, Integer.MIN_VALUE, Integer.MAX_VALUE}) {
            checks.refuses(Rings::used, INDEX, "position, no person", r -> r.position(person, 0));
        }
        for (int cloth : new int[] {-1, 3, Integer.MIN_VALUE, Integer.MAX_VALUE}) {
            checks.refuses(Rings::used, INDEX, "position, no cloth", r -> r.position(0, cloth));
        }
    }

    // ---- promise 21

    /** Makes positions from debts, nets them, and looks at all the debts; the others are to be 0. */
    private static void nets(String what, int[][] gifts, int[][] want) {
        DyeRing ring = new DyeRing();
        ring.give(0, 1, 0, 11);
        for (int[] gift : gifts) {
            ring.give(gift[0], gift[1], 1, gift[2]);
        }
        int[] positions = new int[5];
        for (int person = 0; person < 5; person++) {
            positions[person] = ring.position(person, 1);
        }
        int[][] debts = new int[5][5];
        for (int[] debt : want) {
            debts[debt[0]][debt[1]] = debt[2];
        }
        // to net what is netted already must change nothing
        for (int time = 0; time < 2; time++) {
            checks.answers(ring, want.length, what + ": net(1)", r -> r.net(1));
            for (int person = 0; person < 5; person++) {
                int p = person;
                checks.answers(ring, positions[p], what + ": position(" + p + ", 1)", r -> r.position(p, 1));
                for (int other = 0; other < 5; other++) {
                    int o = other;
                    checks.answers(ring, debts[p][o], what + ": owes(" + p + ", " + o + ", 1)", r -> r.owes(p, o, 1));
                }
            }
        }
        checks.answers(ring, 11, what + ": another cloth's debts stay", r -> r.owes(1, 0, 0));
    }

    private static void net() {
        checks.begin("promise 21");
        nets("no debts", new int[][] {}, new int[][] {});
        nets("one debt", new int[][] {{3, 1, 20}}, new int[][] {{1, 3, 20}});
        nets("debts both ways", new int[][] {{0, 1, 20}, {1, 0, 30}}, new int[][] {{0, 1, 10}});
        nets("debts that are even", new int[][] {{0, 1, 20}, {1, 0, 20}}, new int[][] {});
        nets("a ring of debts", new int[][] {{0, 1, 5}, {1, 2, 5}, {2, 0, 5}}, new int[][] {});
        nets("a chain of debts", new int[][] {{0, 1, 5}, {1, 2, 5}, {2, 3, 5}, {3, 4, 5}}, new int[][] {{4, 0, 5}});
        // the positions 10, -4, 7, -13, 0
        nets("the lowest ones first", new int[][] {{0, 3, 10}, {2, 1, 4}, {2, 3, 3}},
                new int[][] {{1, 0, 4}, {3, 0, 6}, {3, 2, 7}});
        // the positions -10, 1, 2, 3, 4
        nets("one owes all", new int[][] {{1, 0, 1}, {2, 0, 2}, {3, 0, 3}, {4, 0, 4}},
                new int[][] {{0, 1, 1}, {0, 2, 2}, {0, 3, 3}, {0, 4, 4}});
        // the positions -3, -5, 4, 4, 0
        nets("both sides split", new int[][] {{2, 1, 4}, {3, 1, 1}, {3, 0, 3}},
                new int[][] {{0, 2, 3}, {1, 2, 1}, {1, 3, 4}});
        // the positions -2, 3, -4, 5, -2
        nets("all five", new int[][] {{1, 2, 3}, {3, 0, 2}, {3, 2, 1}, {3, 4, 2}},
                new int[][] {{0, 1, 2}, {2, 1, 1}, {2, 3, 3}, {4, 3, 2}});
        for (int cloth : new int[] {-1, 3, Integer.MIN_VALUE, Integer.MAX_VALUE}) {
            checks.refuses(Rings::used, INDEX, "net, no cloth", r -> r.net(cloth));
        }
    }

    /** Netting may make a debt that nobody could have made by giving; giving then finds no room. */
    private static void netLargeDebt() {
        DyeRing ring = new DyeRing();
        for (int i = 0; i < 100; i++) {
            ring.give(0, 2, 0, 1000);
            ring.give(0, 3, 0, 1000);
            ring.give(2, 1, 0, 1000);
            ring.give(3, 1, 0, 1000);
        }
        checks.answers(ring, 1, "net(0)", r -> r.net(0));
        checks.answers(ring, 200000, "owes(1, 0, 0)", r -> r.owes(1, 0, 0));
        checks.answers(ring, -200000, "position(1, 0)", r -> r.position(1, 0));
        ring.shrinks(0, 90);
        checks.fails(ring, STATE, "give(0, 1, 0, 1), which shrinks away", r -> r.give(0, 1, 0, 1));
        checks.answers(ring, 1, "give(1, 0, 0, 10)", r -> r.give(1, 0, 0, 10));
        checks.answers(ring, 1, "net(0) again", r -> r.net(0));
        checks.answers(ring, 199999, "owes(1, 0, 0) then", r -> r.owes(1, 0, 0));
    }
}
