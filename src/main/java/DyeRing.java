import java.util.ArrayList;
import java.util.Arrays;
import java.util.NoSuchElementException;

/** A ring of dyers, weavers and merchants, as ../shared/DOC.md tells it. */
public final class DyeRing {
    public static final int NONE = -1;
    public static final int WAITING = 0, DYED = 1, CLAIMED = 2;
    public static final int BATH = 0, WATER = 1, YARN = 2;

    private static final int MAX_ENTRIES = 12;
    private static final int MAX_BATHS = 10;
    private static final int MAX_ORDERS = 40;
    private static final int DYERS = 3;
    private static final int YARNS = 4;
    private static final int AXES = 2;
    private static final int BLAMES = 3;
    private static final int PERSONS = 5;
    private static final int CLOTHS = 3;

    private static final int MAX_COLOUR = 60;
    private static final int MAX_TOLERANCE = 20;
    private static final int MAX_SHIFT = 10;
    private static final int FRESH = 100;
    private static final int MAX_WEIGHT = 40;
    private static final int MAX_SHRINKAGE = 90;
    private static final int MAX_LENGTH = 1000;
    private static final int MAX_DEBT = 100000;

    private final ArrayList<Entry> entries = new ArrayList<>();
    private final ArrayList<Bath> baths = new ArrayList<>();
    private final ArrayList<Order> orders = new ArrayList<>();
    private final int[] waters = new int[DYERS];
    private final int[] yarnFirsts = new int[YARNS];
    private final int[] yarnSeconds = new int[YARNS];
    private final int[][] blames = new int[DYERS][BLAMES];
    private final Cloth[] cloths = new Cloth[CLOTHS];

    public DyeRing() {
        for (int i = 0; i < CLOTHS; i++) {
            cloths[i] = new Cloth();
        }
    }

    // ---- the book, water and yarn

    public int entry(int first, int second, int tolerance) throws IllegalArgumentException, IllegalStateException {
        requireRange(first, 0, MAX_COLOUR);
        requireRange(second, 0, MAX_COLOUR);
        requireRange(tolerance, 0, MAX_TOLERANCE);
        int number = entries.size();
        requireRoom(number, MAX_ENTRIES);
        entries.add(new Entry(number, first, second, tolerance));
        return number;
    }

    public int water(int dyer, int shift) throws IndexOutOfBoundsException, IllegalArgumentException {
        requireIndex(dyer, DYERS);
        requireRange(shift, -MAX_SHIFT, MAX_SHIFT);
        int before = waters[dyer];
        waters[dyer] = shift;
        return before;
    }

    public int yarn(int yarn, int first, int second) throws IndexOutOfBoundsException, IllegalArgumentException {
        requireIndex(yarn, YARNS);
        requireRange(first, -MAX_SHIFT, MAX_SHIFT);
        requireRange(second, -MAX_SHIFT, MAX_SHIFT);
        int before = yarnFirsts[yarn];
        yarnFirsts[yarn] = first;
        yarnSeconds[yarn] = second;
        return before;
    }

    public int apart(int entry, int other) throws IndexOutOfBoundsException {
        Entry one = findEntry(entry);
        Entry another = findEntry(other);
        return one.distanceTo(another.first, another.second);
    }

    // ---- baths and orders

    public int bath(int dyer, int entry) throws IndexOutOfBoundsException, IllegalStateException {
        requireIndex(dyer, DYERS);
        Entry found = findEntry(entry);
        int number = baths.size();
        requireRoom(number, MAX_BATHS);
        baths.add(new Bath(dyer, found));
        return number;
    }

    public int freshen(int bath) throws IndexOutOfBoundsException {
        return findBath(bath).renew();
    }

    public int strength(int bath) throws IndexOutOfBoundsException {
        return findBath(bath).strengthNow;
    }

    public int order(int entry, int weight, int yarn)
            throws IndexOutOfBoundsException, IllegalArgumentException, IllegalStateException {
        Entry found = findEntry(entry);
        requireIndex(yarn, YARNS);
        requireRange(weight, 1, MAX_WEIGHT);
        int number = orders.size();
        requireRoom(number, MAX_ORDERS);
        orders.add(new Order(number, found, weight, yarn));
        return number;
    }

    public int place(int order) throws IndexOutOfBoundsException, IllegalStateException, NoSuchElementException {
        Order found = findOrder(order);
        requireWaiting(found);
        int number = weakestRightBath(found);
        if (number == NONE) {
            throw new NoSuchElementException("no bath is right for the order");
        }
        dyeIn(found, findBath(number));
        return number;
    }

    public int dye(int order, int bath)
            throws IndexOutOfBoundsException, IllegalArgumentException, IllegalStateException {
        Order found = findOrder(order);
        Bath vat = findBath(bath);
        if (!vat.isFor(found.entry)) {
            throw new IllegalArgumentException("the bath is for another entry");
        }
        requireWaiting(found);
        return dyeIn(found, vat).distance();
    }

    public int claim(int order) throws IndexOutOfBoundsException, IllegalStateException {
        Order found = findOrder(order);
        Piece piece = pieceOf(found);
        if (found.claimed || !piece.isOff()) {
            throw new IllegalStateException("the piece is claimed already, or not off");
        }
        int blame = piece.toBlame();
        found.claimed = true;
        blames[piece.bath.dyer][blame]++;
        return blame;
    }

    public int stateOf(int order) throws IndexOutOfBoundsException {
        Order found = findOrder(order);
        if (found.piece == null) {
            return WAITING;
        }
        return found.claimed ? CLAIMED : DYED;
    }

    public int colour(int order, int axis) throws IndexOutOfBoundsException, IllegalStateException {
        Order found = findOrder(order);
        requireIndex(axis, AXES);
        Piece piece = pieceOf(found);
        return piece.colourAt(axis, piece.strengthThen);
    }

    public int colourByBath(int order, int axis) throws IndexOutOfBoundsException, IllegalStateException {
        Order found = findOrder(order);
        requireIndex(axis, AXES);
        Piece piece = pieceOf(found);
        return piece.colourAt(axis, piece.bath.followedTo(order));
    }

    public int blamed(int dyer, int blame) throws IndexOutOfBoundsException, IllegalArgumentException {
        requireIndex(dyer, DYERS);
        requireRange(blame, BATH, YARN);
        return blames[dyer][blame];
    }

    // ---- cloth

    public int shrinks(int cloth, int hundredths) throws IndexOutOfBoundsException, IllegalArgumentException {
        requireIndex(cloth, CLOTHS);
        requireRange(hundredths, 0, MAX_SHRINKAGE);
        int before = cloths[cloth].shrinkage;
        cloths[cloth].shrinkage = hundredths;
        return before;
    }

    public int give(int from, int to, int cloth, int length)
            throws IndexOutOfBoundsException, IllegalArgumentException, IllegalStateException {
        requireIndex(from, PERSONS);
        requireIndex(to, PERSONS);
        requireIndex(cloth, CLOTHS);
        if (from == to) {
            throw new IllegalArgumentException("nobody gives to themselves");
        }
        requireRange(length, 1, MAX_LENGTH);
        Cloth given = cloths[cloth];
        int debt = given.debts[to][from] + given.shrunk(length);
        if (debt > MAX_DEBT) {
            throw new IllegalStateException("the debt would be too large");
        }
        given.debts[to][from] = debt;
        return debt;
    }

    public int owes(int person, int other, int cloth) throws IndexOutOfBoundsException {
        requireIndex(person, PERSONS);
        requireIndex(other, PERSONS);
        requireIndex(cloth, CLOTHS);
        return cloths[cloth].debts[person][other];
    }

    public int position(int person, int cloth) throws IndexOutOfBoundsException {
        requireIndex(person, PERSONS);
        requireIndex(cloth, CLOTHS);
        return cloths[cloth].balanceOf(person);
    }

    public int net(int cloth) throws IndexOutOfBoundsException {
        requireIndex(cloth, CLOTHS);
        return cloths[cloth].settle();
    }

    // ---- what calls ask for before they change anything

    private static void requireIndex(int index, int count) {
        if (index < 0 || index >= count) {
            throw new IndexOutOfBoundsException("there is no such number");
        }
    }

    private static void requireRange(int value, int least, int most) {
        if (value < least || value > most) {
            throw new IllegalArgumentException("a value is out of its range");
        }
    }

    private static void requireRoom(int count, int most) {
        if (count >= most) {
            throw new IllegalStateException("there is no room for one more");
        }
    }

    private static void requireWaiting(Order order) {
        if (order.piece != null) {
            throw new IllegalStateException("the order is dyed already");
        }
    }

    private static Piece pieceOf(Order order) {
        Piece piece = order.piece;
        if (piece == null) {
            throw new IllegalStateException("the order is still waiting");
        }
        return piece;
    }

    private Entry findEntry(int number) {
        requireIndex(number, entries.size());
        return entries.get(number);
    }

    private Bath findBath(int number) {
        requireIndex(number, baths.size());
        return baths.get(number);
    }

    private Order findOrder(int number) {
        requireIndex(number, orders.size());
        return orders.get(number);
    }

    // ---- dyeing

    private int weakestRightBath(Order order) {
        int best = NONE;
        int least = FRESH + 1;
        for (int i = 0; i < baths.size(); i++) {
            Bath bath = baths.get(i);
            if (bath.strengthNow < least && isRight(bath, order)) {
                best = i;
                least = bath.strengthNow;
            }
        }
        return best;
    }

    private boolean isRight(Bath bath, Order order) {
        if (!bath.isFor(order.entry)) {
            return false;
        }
        int distance = bath.entry.distanceOfDyed(bath.strengthNow, waters[bath.dyer],
                yarnFirsts[order.yarn], yarnSeconds[order.yarn]);
        return distance <= bath.entry.tolerance;
    }

    private Piece dyeIn(Order order, Bath bath) {
        Piece piece = new Piece(order, bath, waters[bath.dyer], yarnFirsts[order.yarn], yarnSeconds[order.yarn]);
        order.piece = piece;
        bath.take(piece);
        return piece;
    }

    /** What is left of a strength after a piece of a weight. */
    private static int weakened(int strength, int weight) {
        return Math.max(0, strength - weight);
    }

    /** An entry of the book. */
    private static final class Entry {
        final int number;
        final int first;
        final int second;
        final int tolerance;

        Entry(int number, int first, int second, int tolerance) {
            this.number = number;
            this.first = first;
            this.second = second;
            this.tolerance = tolerance;
        }

        int distanceTo(int otherFirst, int otherSecond) {
            return Math.abs(first - otherFirst) + Math.abs(second - otherSecond);
        }

        int dyedFirst(int strength, int water, int yarnFirst) {
            return first * strength / FRESH + yarnFirst + water;
        }

        int dyedSecond(int strength, int yarnSecond) {
            return second * strength / FRESH + yarnSecond;
        }

        /** How far from this entry a colour is that is dyed with this strength and these shifts. */
        int distanceOfDyed(int strength, int water, int yarnFirst, int yarnSecond) {
            return distanceTo(dyedFirst(strength, water, yarnFirst), dyedSecond(strength, yarnSecond));
        }
    }

    /** A bath, with the pieces it has dyed, the oldest first. */
    private static final class Bath {
        final int dyer;
        final Entry entry;
        int strengthNow = FRESH;
        // the next piece must tell it, or the strength could not be followed from the pieces alone
        boolean renewedSincePiece;
        final ArrayList<Piece> pieces = new ArrayList<>();

        Bath(int dyer, Entry entry) {
            this.dyer = dyer;
            this.entry = entry;
        }

        boolean isFor(Entry other) {
            return entry.number == other.number;
        }

        int renew() {
            int before = strengthNow;
            strengthNow = FRESH;
            renewedSincePiece = true;
            return before;
        }

        void take(Piece piece) {
            pieces.add(piece);
            strengthNow = weakened(strengthNow, piece.weight);
            renewedSincePiece = false;
        }

        /** The strength that the piece of an order met, found from the pieces before it. */
        int followedTo(int orderNumber) {
            int strength = FRESH;
            for (int i = 0; i < pieces.size(); i++) {
                Piece piece = pieces.get(i);
                if (piece.afterRenewal) {
                    strength = FRESH;
                }
                if (piece.orderNumber == orderNumber) {
                    return strength;
                }
                strength = weakened(strength, piece.weight);
            }
            return strength;
        }
    }

    /** An order; it has no piece while it is waiting. */
    private static final class Order {
        final int number;
        final Entry entry;
        final int weight;
        final int yarn;
        Piece piece;
        boolean claimed;

        Order(int number, Entry entry, int weight, int yarn) {
            this.number = number;
            this.entry = entry;
            this.weight = weight;
            this.yarn = yarn;
        }
    }

    /** A dyed piece, with all that gave it its colour as it was then. */
    private static final class Piece {
        final int orderNumber;
        final Entry entry;
        final int weight;
        final Bath bath;
        final boolean afterRenewal;
        final int strengthThen;
        final int waterThen;
        final int yarnFirstThen;
        final int yarnSecondThen;

        Piece(Order order, Bath bath, int water, int yarnFirst, int yarnSecond) {
            this.orderNumber = order.number;
            this.entry = order.entry;
            this.weight = order.weight;
            this.bath = bath;
            this.afterRenewal = bath.renewedSincePiece;
            this.strengthThen = bath.strengthNow;
            this.waterThen = water;
            this.yarnFirstThen = yarnFirst;
            this.yarnSecondThen = yarnSecond;
        }

        int colourAt(int axis, int strength) {
            return axis == 0 ? entry.dyedFirst(strength, waterThen, yarnFirstThen)
                    : entry.dyedSecond(strength, yarnSecondThen);
        }

        int distance() {
            return entry.distanceOfDyed(strengthThen, waterThen, yarnFirstThen, yarnSecondThen);
        }

        boolean isOff() {
            return distance() > entry.tolerance;
        }

        int toBlame() {
            int withFreshBath = entry.distanceOfDyed(FRESH, waterThen, yarnFirstThen, yarnSecondThen);
            int withoutWater = entry.distanceOfDyed(strengthThen, 0, yarnFirstThen, yarnSecondThen);
            int withoutYarn = entry.distanceOfDyed(strengthThen, waterThen, 0, 0);
            if (withFreshBath <= withoutWater && withFreshBath <= withoutYarn) {
                return BATH;
            }
            return withoutWater <= withoutYarn ? WATER : YARN;
        }
    }

    /** The debts in a cloth. */
    private static final class Cloth {
        int shrinkage;
        // the row is the person who owes, the column the one who is owed
        final int[][] debts = new int[PERSONS][PERSONS];
        // what settle() has yet to settle; kept, so that no call makes an array
        final int[] unsettled = new int[PERSONS];

        int shrunk(int length) {
            int lost = (length * shrinkage + 99) / 100;
            return length - lost;
        }

        int balanceOf(int person) {
            int balance = 0;
            for (int other = 0; other < PERSONS; other++) {
                balance += debts[other][person] - debts[person][other];
            }
            return balance;
        }

        /** Puts debts made from the positions in the place of all debts, and counts them. */
        int settle() {
            for (int person = 0; person < PERSONS; person++) {
                unsettled[person] = balanceOf(person);
            }
            for (int person = 0; person < PERSONS; person++) {
                Arrays.fill(debts[person], 0);
            }
            int made = 0;
            // each debt brings a position to 0, so there are fewer debts than persons
            while (made < PERSONS && settleLowest()) {
                made++;
            }
            return made;
        }

        private boolean settleLowest() {
            int debtor = lowest(-1);
            int creditor = lowest(1);
            if (debtor == NONE || creditor == NONE) {
                return false;
            }
            int amount = Math.min(-unsettled[debtor], unsettled[creditor]);
            debts[debtor][creditor] = amount;
            unsettled[debtor] += amount;
            unsettled[creditor] -= amount;
            return true;
        }

        /** The lowest person whose unsettled position has the sign, -1 or 1, or NONE. */
        private int lowest(int sign) {
            for (int person = 0; person < PERSONS; person++) {
                if (unsettled[person] * sign > 0) {
                    return person;
                }
            }
            return NONE;
        }
    }
}
