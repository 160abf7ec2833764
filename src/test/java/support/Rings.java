/** States to begin from. */
final class Rings {
    private Rings() {
    }

    /** The entries (50, 30) and (20, 20), the baths 0 of dyer 0 and 1 of dyer 1 for the first one, an order of each. */
    static DyeRing small() {
        DyeRing ring = new DyeRing();
        ring.entry(50, 30, 6);
        ring.entry(20, 20, 0);
        ring.bath(0, 0);
        ring.bath(1, 0);
        ring.order(0, 10, 0);
        ring.order(1, 10, 0);
        return ring;
    }

    /** The same, with all sorts of shifts, pieces, claims and debts; made by 22 calls. */
    static DyeRing used() {
        DyeRing ring = small();
        ring.water(0, 7);
        ring.water(1, -3);
        ring.yarn(1, 2, -2);
        ring.yarn(2, -9, 10);
        ring.shrinks(0, 7);
        ring.shrinks(1, 90);
        ring.order(0, 40, 1);
        ring.order(0, 40, 2);
        ring.order(0, 1, 0);
        ring.dye(2, 0);
        ring.dye(3, 1);
        ring.claim(2);
        ring.give(0, 1, 0, 1000);
        ring.give(1, 2, 0, 333);
        ring.give(3, 4, 1, 77);
        ring.give(4, 3, 2, 5);
        return ring;
    }

    /** The same, with a bath for the entry 1, and one for an entry of the colour of the entry 0. */
    static DyeRing usedWithOtherBaths() {
        DyeRing ring = used();
        ring.bath(0, 1);
        ring.entry(50, 30, 6);
        ring.bath(0, 2);
        return ring;
    }

    /** Twelve entries, and nothing else. */
    static DyeRing fullBook() {
        DyeRing ring = new DyeRing();
        for (int i = 0; i < 12; i++) {
            ring.entry(5 * i, 60 - 5 * i, i);
        }
        return ring;
    }

    /** Of all that has a limit, as much as there may be. */
    static DyeRing full() {
        DyeRing ring = fullBook();
        for (int i = 0; i < 10; i++) {
            ring.bath(i % 3, i);
        }
        for (int i = 0; i < 40; i++) {
            ring.order(i % 12, i + 1, i % 4);
        }
        return ring;
    }

    /** One entry, ten baths for it, and orders that wait and are right everywhere. */
    static DyeRing waiting(int orders) {
        DyeRing ring = new DyeRing();
        ring.entry(50, 30, 6);
        for (int i = 0; i < 10; i++) {
            ring.bath(i % 3, 0);
        }
        for (int i = 0; i < orders; i++) {
            ring.order(0, 1, i % 4);
        }
        return ring;
    }

    /** One entry, and pieces of one bath that are all off, by the yarn. */
    static DyeRing offPieces(int pieces) {
        DyeRing ring = new DyeRing();
        ring.entry(50, 30, 0);
        ring.bath(0, 0);
        ring.yarn(0, 10, 10);
        for (int i = 0; i < pieces; i++) {
            ring.dye(ring.order(0, 1, 0), 0);
            ring.freshen(0);
        }
        return ring;
    }

    /** Dyes until a bath has lost so much of its strength. */
    static void weaken(DyeRing ring, int entry, int bath, int lost) {
        for (int left = lost; left > 0; left -= 40) {
            ring.dye(ring.order(entry, Math.min(left, 40), 3), bath);
        }
    }

    /** The order 0 is a piece of the weight 1, dyed with these shifts in a bath of dyer 0 that had lost so much. */
    static DyeRing piece(int first, int second, int tolerance, int lost, int water, int yarn0, int yarn1) {
        DyeRing ring = new DyeRing();
        ring.entry(first, second, tolerance);
        ring.bath(0, 0);
        ring.order(0, 1, 0);
        weaken(ring, 0, 0, lost);
        ring.water(0, water);
        ring.yarn(0, yarn0, yarn1);
        ring.dye(0, 0);
        return ring;
    }

    /** The person 1 owes the person 0 as much of the cloth 0 as anybody may owe, less something. */
    static DyeRing deepInDebt(int less) {
        DyeRing ring = new DyeRing();
        for (int i = 0; i < 99; i++) {
            ring.give(0, 1, 0, 1000);
        }
        ring.give(0, 1, 0, 1000 - less);
        return ring;
    }
}
