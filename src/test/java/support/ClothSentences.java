/** Boundary cases of the promises 17 to 21: cloth, credit and netting. */
final class ClothSentences {
    private ClothSentences() {
    }

    static void addTo(Sentences s) {
        shrinks(s);
        giveRefuses(s);
        giveLimit(s);
        giveShrinks(s);
        owes(s);
        position(s);
        netRefuses(s);
        netPairs(s);
        netLarge(s);
    }

    // ---- promise 17

    private static void shrinks(Sentences s) {
        s.range(17, "cloth: 0 to 2", Rings::used, 0, 2, Due.INDEX, (r, v) -> r.shrinks(v, 1));
        s.range(17, "hundredths: 0 to 90", Rings::used, 0, 90, Due.ARGUMENT, (r, v) -> r.shrinks(0, v));
        s.add(17, "Returns the shrinkage before", c -> {
            DyeRing own = new DyeRing();
            for (int i = 0; i < 6; i++) {
                int cloth = i % 3;
                c.answers(own, i < 3 ? 0 : cloth + 1, "its own shrinkage", r -> r.shrinks(cloth, cloth + 1));
            }
            DyeRing ring = new DyeRing();
            for (int i = 0; i <= 90; i++) {
                int hundredths = i;
                for (int j = 0; j < 3; j++) {
                    int cloth = j;
                    int next = cloth == 1 ? 90 - hundredths : hundredths;
                    int before = i == 0 ? 0 : cloth == 1 ? next + 1 : next - 1;
                    c.answers(ring, before, "shrinks", r -> r.shrinks(cloth, next));
                }
            }
            c.answers(ring, 90, "shrinks(0, 0)", r -> r.shrinks(0, 0));
            c.answers(ring, 0, "shrinks(0, 0) again", r -> r.shrinks(0, 0));
            c.answers(ring, 0, "the cloth 1 keeps its own", r -> r.shrinks(1, 5));
            c.answers(ring, 90, "the cloth 2 keeps its own", r -> r.shrinks(2, 0));
        });
        s.add(17, "shrinks: IndexOutOfBoundsException before IllegalArgumentException", c -> {
            for (int cloth : new int[] {-1, 3}) {
                for (int hundredths : new int[] {-1, 91}) {
                    c.refuses(Rings::used, Due.INDEX, "no cloth and no share", r -> r.shrinks(cloth, hundredths));
                }
            }
        });
        s.add(17, "a refused shrinkage keeps the one before", c -> {
            DyeRing ring = new DyeRing();
            ring.shrinks(0, 90);
            c.fails(ring, Due.ARGUMENT, "shrinks(0, 91)", r -> r.shrinks(0, 91));
            c.fails(ring, Due.ARGUMENT, "shrinks(0, -1)", r -> r.shrinks(0, -1));
            c.answers(ring, 100, "give", r -> r.give(0, 1, 0, 1000));
            c.answers(ring, 90, "shrinks(0, 0)", r -> r.shrinks(0, 0));
        });
        s.add(17, "for what is given from now on", c -> {
            for (int i = 0; i < 3; i++) {
                int cloth = i;
                DyeRing ring = new DyeRing();
                c.answers(ring, 100, "give before", r -> r.give(0, 1, cloth, 100));
                ring.shrinks(cloth, 90);
                c.answers(ring, 100, "what is owed stays", r -> r.owes(1, 0, cloth));
                c.answers(ring, 110, "give then", r -> r.give(0, 1, cloth, 100));
                ring.shrinks(cloth, 0);
                c.answers(ring, 110, "what is owed stays", r -> r.owes(1, 0, cloth));
                c.answers(ring, 210, "give after that", r -> r.give(0, 1, cloth, 100));
                c.answers(ring, 100, "another cloth", r -> r.give(0, 1, (cloth + 1) % 3, 100));
            }
        });
    }

    // ---- promise 18

    private static void giveRefuses(Sentences s) {
        s.range(18, "from: the person who gives", Rings::used, 0, 4, Due.INDEX,
                (r, v) -> r.give(v, v == 0 ? 1 : 0, 2, 1));
        s.range(18, "to: another person", Rings::used, 0, 4, Due.INDEX,
                (r, v) -> r.give(v == 0 ? 1 : 0, v, 2, 1));
        s.range(18, "cloth: 0 to 2", Rings::used, 0, 2, Due.INDEX, (r, v) -> r.give(0, 1, v, 1));
        s.range(18, "length: 1 to 1000", Rings::used, 1, 1000, Due.ARGUMENT, (r, v) -> r.give(3, 4, 1, v));
        s.add(18, "Throws IllegalArgumentException if both are the same", c -> {
            for (int i = 0; i < 5; i++) {
                int person = i;
                for (int length : new int[] {1, 1000, 0, 1001}) {
                    c.refuses(Rings::used, Due.ARGUMENT, "to oneself", r -> r.give(person, person, 0, length));
                }
            }
        });
        s.add(18, "give: IndexOutOfBoundsException before IllegalArgumentException", c -> {
            int[][] wrong = {{-1, -1, 0, 1}, {5, 5, 0, 1}, {1, 1, 3, 1}, {1, 1, -1, 1}, {-1, 0, 0, 0}, {0, 5, 0, 1001},
                {0, 1, 3, 0}, {0, 1, -1, 1001}, {5, 5, 3, 0}};
            for (int[] w : wrong) {
                c.refuses(Rings::used, Due.INDEX, "no number", r -> r.give(w[0], w[1], w[2], w[3]));
            }
        });
        s.add(18, "give: IllegalArgumentException before IllegalStateException", c -> {
            c.refuses(() -> Rings.deepInDebt(0), Due.ARGUMENT, "too long", r -> r.give(0, 1, 0, 1001));
            c.refuses(() -> Rings.deepInDebt(0), Due.ARGUMENT, "far too long", r -> r.give(0, 1, 0, Integer.MAX_VALUE));
            c.refuses(() -> Rings.deepInDebt(0), Due.ARGUMENT, "too short", r -> r.give(0, 1, 0, 0));
            c.refuses(() -> Rings.deepInDebt(0), Due.ARGUMENT, "to oneself", r -> r.give(1, 1, 0, 1000));
            DyeRing netted = deepAfterNetting();
            c.fails(netted, Due.ARGUMENT, "too short, above the limit", r -> r.give(0, 1, 0, 0));
            c.fails(netted, Due.ARGUMENT, "too long, above the limit", r -> r.give(0, 1, 0, 1001));
        });
        s.add(18, "give: IndexOutOfBoundsException deep in debt", c -> {
            int[][] wrong = {{-1, 1, 0}, {0, 5, 0}, {0, 1, 3}};
            for (int[] w : wrong) {
                c.refuses(() -> Rings.deepInDebt(0), Due.INDEX, "no number", r -> r.give(w[0], w[1], w[2], 1000));
            }
        });
    }

    private static void giveLimit(Sentences s) {
        s.add(18, "Throws IllegalStateException if more than 100000 would be owed", c -> {
            c.answers(Rings.deepInDebt(1), 100000, "just as much as there may be", r -> r.give(0, 1, 0, 1));
            c.refuses(() -> Rings.deepInDebt(1), Due.STATE, "one too much", r -> r.give(0, 1, 0, 2));
            c.refuses(() -> Rings.deepInDebt(0), Due.STATE, "one too much", r -> r.give(0, 1, 0, 1));
            c.answers(Rings.deepInDebt(999), 100000, "the longest one", r -> r.give(0, 1, 0, 999));
            c.refuses(() -> Rings.deepInDebt(999), Due.STATE, "the longest one", r -> r.give(0, 1, 0, 1000));
        });
        s.add(18, "the limit looks at what would be owed, after shrinking", c -> {
            DyeRing ring = Rings.deepInDebt(10);
            ring.shrinks(0, 90);
            c.fails(ring, Due.STATE, "110 less 99", r -> r.give(0, 1, 0, 110));
            c.answers(ring, 100000, "109 less 99", r -> r.give(0, 1, 0, 109));
            c.fails(ring, Due.STATE, "10 less 9", r -> r.give(0, 1, 0, 10));
            c.answers(ring, 100000, "9 less 9", r -> r.give(0, 1, 0, 9));
            c.answers(ring, 100000, "1 less 1", r -> r.give(0, 1, 0, 1));
        });
        s.add(18, "the limit is of the other one, to the person, in this cloth", c -> {
            DyeRing all = Rings.deepInDebt(0);
            for (int i = 0; i < 75; i++) {
                int from = i / 15;
                int to = i / 3 % 5;
                int cloth = i % 3;
                if (from != to && (from != 0 || to != 1 || cloth != 0)) {
                    c.answers(Rings.deepInDebt(0), 1000, "give", r -> r.give(from, to, cloth, 1000));
                    c.answers(all, 1000, "give after others", r -> r.give(from, to, cloth, 1000));
                }
            }
            c.answers(all, 100000, "owes(1, 0, 0)", r -> r.owes(1, 0, 0));
            c.fails(all, Due.STATE, "give(0, 1, 0, 1)", r -> r.give(0, 1, 0, 1));
        });
        s.add(18, "a refused give leaves the debt as it was", c -> {
            DyeRing ring = Rings.deepInDebt(500);
            c.fails(ring, Due.STATE, "give(0, 1, 0, 501)", r -> r.give(0, 1, 0, 501));
            c.fails(ring, Due.ARGUMENT, "give(0, 1, 0, 0)", r -> r.give(0, 1, 0, 0));
            c.fails(ring, Due.INDEX, "give(0, 1, 3, 1)", r -> r.give(0, 1, 3, 1));
            c.answers(ring, 99500, "owes(1, 0, 0)", r -> r.owes(1, 0, 0));
            c.answers(ring, -99500, "position(1, 0)", r -> r.position(1, 0));
            c.answers(ring, 100000, "give(0, 1, 0, 500)", r -> r.give(0, 1, 0, 500));
        });
        s.add(18, "above the limit by netting, each give to the debtor is refused", c -> {
            DyeRing ring = deepAfterNetting();
            c.fails(ring, Due.STATE, "give(0, 1, 0, 1)", r -> r.give(0, 1, 0, 1));
            ring.shrinks(0, 90);
            c.fails(ring, Due.STATE, "one that shrinks away", r -> r.give(0, 1, 0, 1));
            c.answers(ring, 1, "give(1, 0, 0, 10)", r -> r.give(1, 0, 0, 10));
            c.answers(ring, 200000, "owes(1, 0, 0)", r -> r.owes(1, 0, 0));
            ring.net(0);
            c.answers(ring, 199999, "owes(1, 0, 0) when it is netted", r -> r.owes(1, 0, 0));
        });
    }

    private static void giveShrinks(Sentences s) {
        s.add(18, "the length times the shrinkage, divided by 100, rounded up", c -> {
            for (int i = 0; i <= 90; i++) {
                int hundredths = i;
                for (int length = 1; length <= 1000; length += i % 10 == 0 ? 1 : 7) {
                    gives(c, length, hundredths);
                }
            }
        });
        s.add(18, "rounded up: just whole, one hundredth more, one hundredth less", c -> {
            int[][] due = {{100, 1, 99}, {101, 1, 99}, {99, 1, 98}, {1, 1, 0}, {1, 90, 0}, {2, 50, 1}, {3, 50, 1},
                {10, 90, 1}, {11, 90, 1}, {9, 90, 0}, {1000, 90, 100}, {999, 90, 99}, {1000, 1, 990}, {1, 0, 1},
                {1000, 0, 1000}, {20, 5, 19}, {21, 5, 19}, {19, 5, 18}};
            for (int[] d : due) {
                DyeRing ring = new DyeRing();
                ring.shrinks(2, d[1]);
                c.answers(ring, d[2], d[0] + " at " + d[1], r -> r.give(4, 3, 2, d[0]));
            }
        });
        s.add(18, "Returns what the other one owes the person in this cloth then", c -> {
            for (int i = 0; i < 75; i++) {
                int from = i / 15;
                int to = i / 3 % 5;
                int cloth = i % 3;
                if (from == to) {
                    continue;
                }
                DyeRing ring = new DyeRing();
                c.answers(ring, 7, "the first one", r -> r.give(from, to, cloth, 7));
                c.answers(ring, 5, "the other way", r -> r.give(to, from, cloth, 5));
                c.answers(ring, 1007, "the second one", r -> r.give(from, to, cloth, 1000));
                ring.shrinks(cloth, 90);
                c.answers(ring, 1007, "what shrinks away", r -> r.give(from, to, cloth, 1));
                c.answers(ring, 1007, "owes", r -> r.owes(to, from, cloth));
                c.answers(ring, 5, "owes the other way", r -> r.owes(from, to, cloth));
            }
        });
    }

    private static void gives(Checks c, int length, int hundredths) {
        DyeRing ring = new DyeRing();
        ring.shrinks(1, hundredths);
        int lost = 0;
        while (100 * lost < length * hundredths) {
            lost++;
        }
        c.answers(ring, length - lost, length + " at " + hundredths, r -> r.give(2, 4, 1, length));
    }

    // ---- promise 19

    private static void owes(Sentences s) {
        s.range(19, "person: 0 to 4", Rings::used, 0, 4, Due.INDEX, (r, v) -> r.owes(v, 0, 0));
        s.range(19, "other: 0 to 4", Rings::used, 0, 4, Due.INDEX, (r, v) -> r.owes(0, v, 0));
        s.range(19, "cloth: 0 to 2", Rings::used, 0, 2, Due.INDEX, (r, v) -> r.owes(1, 0, v));
        s.add(19, "no such person, of either, perhaps the same", c -> {
            for (int none : new int[] {-1, 5}) {
                c.refuses(Rings::used, Due.INDEX, "nobody to nobody", r -> r.owes(none, none, 0));
                c.refuses(Rings::used, Due.INDEX, "oneself, no cloth", r -> r.owes(1, 1, none));
            }
        });
        s.add(19, "perhaps the same: 0 to oneself", c -> {
            DyeRing ring = Rings.used();
            for (int net = 0; net < 2; net++) {
                for (int i = 0; i < 15; i++) {
                    int person = i % 5;
                    int cloth = i / 5;
                    c.answers(ring, 0, "owes oneself", r -> r.owes(person, person, cloth));
                }
                for (int cloth = 0; cloth < 3; cloth++) {
                    ring.net(cloth);
                }
            }
        });
        s.add(19, "Returns the length, from 0 to 100000", c -> {
            DyeRing ring = Rings.deepInDebt(0);
            c.answers(ring, 100000, "owes(1, 0, 0)", r -> r.owes(1, 0, 0));
            c.answers(ring, 0, "owes(0, 1, 0)", r -> r.owes(0, 1, 0));
            c.answers(ring, 0, "owes(1, 0, 1)", r -> r.owes(1, 0, 1));
        });
        s.add(19, "each debt is its own: each person, other one and cloth", c -> {
            DyeRing ring = eachDebt();
            for (int i = 0; i < 75; i++) {
                int debt = i;
                int due = debt / 15 == debt / 3 % 5 ? 0 : debt + 1;
                c.answers(ring, due, "owes", r -> r.owes(debt / 15, debt / 3 % 5, debt % 3));
            }
        });
    }

    /** Everybody owes everybody else another length of every cloth. */
    private static DyeRing eachDebt() {
        DyeRing ring = new DyeRing();
        for (int debt = 0; debt < 75; debt++) {
            if (debt / 15 != debt / 3 % 5) {
                ring.give(debt / 3 % 5, debt / 15, debt % 3, debt + 1);
            }
        }
        return ring;
    }

    // ---- promise 20

    private static void position(Sentences s) {
        s.range(20, "person: 0 to 4", Rings::used, 0, 4, Due.INDEX, (r, v) -> r.position(v, 0));
        s.range(20, "cloth: 0 to 2", Rings::used, 0, 2, Due.INDEX, (r, v) -> r.position(4, v));
        s.add(20, "what others owe the person, less what the person owes them", c -> {
            DyeRing ring = eachDebt();
            for (int cloth = 0; cloth < 3; cloth++) {
                ring.give(0, 4, cloth, 100 + cloth);
            }
            for (int i = 0; i < 15; i++) {
                int person = i % 5;
                int cloth = i / 5;
                int due = person == 0 ? 100 + cloth : person == 4 ? -100 - cloth : 0;
                for (int other = 0; other < 5; other++) {
                    // by the way eachDebt counts, the other one owes 15 * other + 3 * person + cloth + 1
                    due += 15 * other + 3 * person - (15 * person + 3 * other);
                }
                c.answers(ring, due, "position", r -> r.position(person, cloth));
            }
        });
        s.add(20, "a position of 0: as much is owed as owes", c -> {
            DyeRing ring = new DyeRing();
            ring.give(0, 1, 0, 1000);
            ring.give(1, 0, 0, 1000);
            ring.give(2, 3, 0, 5);
            ring.give(3, 4, 0, 5);
            int[] due = {0, 0, 5, 0, -5};
            for (int i = 0; i < 5; i++) {
                int person = i;
                c.answers(ring, due[person], "position", r -> r.position(person, 0));
                c.answers(ring, 0, "position in another cloth", r -> r.position(person, 1));
            }
        });
        s.add(20, "below 0 if the person owes more, by one", c -> {
            DyeRing ring = new DyeRing();
            ring.give(0, 1, 2, 10);
            ring.give(1, 0, 2, 9);
            c.answers(ring, 1, "position(0, 2)", r -> r.position(0, 2));
            c.answers(ring, -1, "position(1, 2)", r -> r.position(1, 2));
            ring.give(1, 0, 2, 2);
            c.answers(ring, -1, "position(0, 2) then", r -> r.position(0, 2));
            c.answers(ring, 1, "position(1, 2) then", r -> r.position(1, 2));
        });
        s.add(20, "the furthest positions: all four others owe 100000", c -> {
            DyeRing ring = new DyeRing();
            for (int i = 0; i < 400; i++) {
                ring.give(4, i % 4, 1, 1000);
            }
            c.answers(ring, 400000, "position(4, 1)", r -> r.position(4, 1));
            c.answers(ring, -100000, "position(0, 1)", r -> r.position(0, 1));
            c.answers(ring, 4, "net(1)", r -> r.net(1));
            c.answers(ring, 400000, "position(4, 1) then", r -> r.position(4, 1));
        });
    }

    // ---- promise 21

    /** Debts that come to these positions in the cloth 1. */
    private static DyeRing withPositions(int... positions) {
        DyeRing ring = new DyeRing();
        int sum = 0;
        for (int person = 0; person < 4; person++) {
            sum += positions[person];
            if (sum > 0) {
                ring.give(person, person + 1, 1, sum);
            } else if (sum < 0) {
                ring.give(person + 1, person, 1, -sum);
            }
        }
        return ring;
    }

    /** Nets, and looks at every debt; each row of due is a debtor, a creditor and a length. */
    private static void nets(Checks c, DyeRing ring, int cloth, int[]... due) {
        int[][] debts = new int[5][5];
        for (int[] debt : due) {
            debts[debt[0]][debt[1]] = debt[2];
        }
        c.answers(ring, due.length, "net", r -> r.net(cloth));
        for (int i = 0; i < 25; i++) {
            int pair = i;
            c.answers(ring, debts[pair / 5][pair % 5], "owes(" + pair / 5 + ", " + pair % 5 + ")",
                    r -> r.owes(pair / 5, pair % 5, cloth));
        }
    }

    private static void netRefuses(Sentences s) {
        s.range(21, "cloth: 0 to 2", Rings::used, 0, 2, Due.INDEX, DyeRing::net);
        s.add(21, "Nets the debts in a cloth, and not in others", c -> {
            for (int i = 0; i < 3; i++) {
                int netted = i;
                DyeRing ring = new DyeRing();
                for (int cloth = 0; cloth < 3; cloth++) {
                    ring.give(0, 1, cloth, 20);
                    ring.give(1, 0, cloth, 20);
                }
                c.answers(ring, 0, "net", r -> r.net(netted));
                for (int j = 0; j < 3; j++) {
                    int cloth = j;
                    c.answers(ring, cloth == netted ? 0 : 20, "owes", r -> r.owes(0, 1, cloth));
                }
            }
        });
        s.add(21, "net keeps the shrinkage, and is not shrunk by it", c -> {
            DyeRing ring = withPositions(10, 0, 0, 0, -10);
            ring.shrinks(1, 50);
            nets(c, ring, 1, new int[] {4, 0, 10});
            c.answers(ring, 50, "shrinks(1, 0)", r -> r.shrinks(1, 0));
        });
    }

    private static void netPairs(Sentences s) {
        s.add(21, "as long as there are positions that are not 0: there are none", c -> {
            nets(c, new DyeRing(), 1);
            DyeRing even = new DyeRing();
            even.give(0, 1, 1, 20);
            even.give(1, 0, 1, 20);
            nets(c, even, 1);
            DyeRing round = new DyeRing();
            for (int person = 0; person < 5; person++) {
                round.give(person, (person + 1) % 5, 1, 1000);
            }
            nets(c, round, 1);
        });
        s.add(21, "a position of 0 has no debt", c -> {
            nets(c, withPositions(0, 5, 0, -5, 0), 1, new int[] {3, 1, 5});
            nets(c, withPositions(5, 0, 0, 0, -5), 1, new int[] {4, 0, 5});
            nets(c, withPositions(0, 0, 0, -1, 1), 1, new int[] {3, 4, 1});
            nets(c, withPositions(-7, 0, 7, 0, 0), 1, new int[] {0, 2, 7});
        });
        s.add(21, "the lowest person with a position below 0", c -> {
            nets(c, withPositions(-1, -2, -3, -4, 10), 1, new int[] {0, 4, 1}, new int[] {1, 4, 2},
                    new int[] {2, 4, 3}, new int[] {3, 4, 4});
            // the first one's debt must go to the lowest one who is owed
            nets(c, withPositions(-5, 3, -5, 7, 0), 1, new int[] {0, 1, 3}, new int[] {0, 3, 2}, new int[] {2, 3, 5});
            nets(c, withPositions(-2, 3, -4, 5, -2), 1, new int[] {0, 1, 2}, new int[] {2, 1, 1}, new int[] {2, 3, 3},
                    new int[] {4, 3, 2});
        });
        s.add(21, "the lowest one with a position above 0", c -> {
            nets(c, withPositions(1, 2, 3, 4, -10), 1, new int[] {4, 0, 1}, new int[] {4, 1, 2}, new int[] {4, 2, 3},
                    new int[] {4, 3, 4});
            nets(c, withPositions(5, -3, 5, -7, 0), 1, new int[] {1, 0, 3}, new int[] {3, 0, 2}, new int[] {3, 2, 5});
            nets(c, withPositions(2, -3, 4, -5, 2), 1, new int[] {1, 0, 2}, new int[] {1, 2, 1}, new int[] {3, 2, 3},
                    new int[] {3, 4, 2});
        });
        s.add(21, "as much as both positions allow: even, one less, one more", c -> {
            nets(c, withPositions(5, 5, -5, -5, 0), 1, new int[] {2, 0, 5}, new int[] {3, 1, 5});
            nets(c, withPositions(5, 5, -4, -6, 0), 1, new int[] {2, 0, 4}, new int[] {3, 0, 1}, new int[] {3, 1, 5});
            nets(c, withPositions(5, 5, -6, -4, 0), 1, new int[] {2, 0, 5}, new int[] {2, 1, 1}, new int[] {3, 1, 4});
        });
        s.add(21, "takes all of them away, and makes new ones from the positions", c -> {
            DyeRing ring = withPositions(0, 0, 5, 0, -5);
            nets(c, ring, 1, new int[] {4, 2, 5});
            nets(c, ring, 1, new int[] {4, 2, 5});
            ring.give(4, 2, 1, 3);
            nets(c, ring, 1, new int[] {4, 2, 2});
            ring.give(4, 2, 1, 2);
            nets(c, ring, 1);
        });
        s.add(21, "Nets all small positions", ClothSentences::netGrid);
    }

    /** All positions from -2 to 2, each told by another way of netting: the debts are laid out on a line. */
    private static void netGrid(Checks c) {
        for (int i = 0; i < 625; i++) {
            int[] p = {i % 5 - 2, i / 5 % 5 - 2, i / 25 % 5 - 2, i / 125 - 2, 0};
            p[4] = -p[0] - p[1] - p[2] - p[3];
            int[][] debts = new int[5][5];
            int debtStart = 0;
            int count = 0;
            for (int debtor = 0; debtor < 5; debtor++) {
                int creditStart = 0;
                for (int creditor = 0; creditor < 5; creditor++) {
                    int from = Math.max(debtStart, creditStart);
                    int to = Math.min(debtStart + Math.max(-p[debtor], 0), creditStart + Math.max(p[creditor], 0));
                    debts[debtor][creditor] = Math.max(to - from, 0);
                    count += to > from ? 1 : 0;
                    creditStart += Math.max(p[creditor], 0);
                }
                debtStart += Math.max(-p[debtor], 0);
            }
            int[][] due = new int[count][];
            for (int pair = 24; pair >= 0; pair--) {
                if (debts[pair / 5][pair % 5] > 0) {
                    count--;
                    due[count] = new int[] {pair / 5, pair % 5, debts[pair / 5][pair % 5]};
                }
            }
            nets(c, withPositions(p), 1, due);
        }
    }

    /** The person 1 owes the person 0 200000 of the cloth 0. */
    private static DyeRing deepAfterNetting() {
        DyeRing ring = new DyeRing();
        for (int i = 0; i < 100; i++) {
            ring.give(0, 2, 0, 1000);
            ring.give(0, 3, 0, 1000);
            ring.give(2, 1, 0, 1000);
            ring.give(3, 1, 0, 1000);
        }
        ring.net(0);
        return ring;
    }

    private static void netLarge(Sentences s) {
        s.add(21, "Returns how many debts there are then, from 0 to 4", c -> {
            int[][] positions = {{0, 0, 0, 0, 0}, {1, 0, 0, 0, -1}, {2, -1, -1, 0, 0}, {1, 1, 1, -3, 0},
                {4, -1, -1, -1, -1}, {-4, 1, 1, 1, 1}, {3, -2, 3, -2, -2}};
            int[] due = {0, 1, 2, 3, 4, 4, 4};
            for (int i = 0; i < due.length; i++) {
                DyeRing ring = withPositions(positions[i]);
                c.answers(ring, due[i], "net", r -> r.net(1));
                c.answers(ring, due[i], "net again", r -> r.net(1));
            }
        });
        s.add(21, "net names no limit: a debt may be above 100000 then", c -> {
            DyeRing ring = deepAfterNetting();
            c.answers(ring, 200000, "owes(1, 0, 0)", r -> r.owes(1, 0, 0));
            c.answers(ring, 200000, "position(0, 0)", r -> r.position(0, 0));
            c.answers(ring, 1, "net(0) again", r -> r.net(0));
            c.answers(ring, 200000, "owes(1, 0, 0) then", r -> r.owes(1, 0, 0));
        });
    }
}
