import java.util.NoSuchElementException;

/**
 * Packages in versions that need one another: the best choice of versions for what is asked, by
 * three aims; which asked needs hinder each other; what each package can be.
 *
 * <p>A set of versions is an int of 28 bits, four for each package, version 0 in the lowest of the
 * four. Package 0 has the highest four, so that of two choices the one that is better by aim 0 is
 * the greater number. A set of packages (a "mark" each) has the lowest of each four bits.
 */
public final class PackagePick {
    public static final int NONE = -1;

    private static final int PACKAGES = 7;
    private static final int VERSIONS = 4;
    private static final int SLOTS = PACKAGES * VERSIONS;
    private static final int MOST_NEEDS = 4;
    private static final int MOST_BANS = 16;
    private static final int MOST_ASKED = 6;
    private static final int AIMS = 3;
    private static final int FEWEST_PACKAGES = 1;
    private static final int FEWEST_CHANGES = 2;

    private static final int ALL_MARKS = 0x1111111;
    private static final int ALL_OF_ONE = 15;
    private static final int WITHOUT = 16;
    private static final int NO_LIMIT = 1000000;

    private final Catalog catalog = new Catalog();
    private final Wishes wishes = new Wishes();
    private final Tally tally = new Tally();
    private int told = 0;
    private int kept = 0;
    private int hindering = 0;

    public PackagePick() {
    }

    public boolean version(int p, int v) {
        return isVersion(p, v) && catalog.add(slotOf(p, v));
    }

    public boolean need(int p, int v, int q, int a, int b) {
        return isVersion(p, v) && isNeed(q, a, b)
            && catalog.addNeed(slotOf(p, v), markOf(q), outside(q, a, b));
    }

    public boolean drop(int p, int v) {
        return isVersion(p, v) && catalog.remove(slotOf(p, v));
    }

    public boolean ban(int p, int v, int q, int w) {
        return isVersion(p, v) && isVersion(q, w) && p != q
            && catalog.addBan(slotOf(p, v), slotOf(q, w));
    }

    public boolean ask(int q, int a, int b) {
        return isNeed(q, a, b) && wishes.add(markOf(q), outside(q, a, b));
    }

    public boolean take(int i) {
        return wishes.remove(i);
    }

    public int solve(int aim) throws IllegalArgumentException, IllegalStateException {
        if (aim < 0 || aim >= AIMS) {
            throw new IllegalArgumentException("there is no such aim");
        }
        if (tallyChoices(wishes.all(), aim, NO_LIMIT) == 0) {
            hindering = fewestHindering();
            throw new IllegalStateException("there is no choice");
        }
        told = tally.best;
        return Integer.bitCount(told);
    }

    public int keep() {
        int changes = differing(told, kept);
        kept = told;
        return changes;
    }

    public int chosen(int p) {
        if (!isPackage(p)) {
            return NONE;
        }
        for (int v = 0; v < VERSIONS; v++) {
            if (holds(told, slotOf(p, v))) {
                return v;
            }
        }
        return NONE;
    }

    public int many() {
        return tallyChoices(wishes.all(), 0, NO_LIMIT);
    }

    public int can(int p) {
        if (!isPackage(p)) {
            return NONE;
        }
        tallyChoices(wishes.all(), 0, NO_LIMIT);
        int versions = (tally.seen >> placeOf(p)) & ALL_OF_ONE;
        return (tally.absent & markOf(p)) == 0 ? versions : versions | WITHOUT;
    }

    public int core(int i) throws NoSuchElementException {
        int before = 0;
        for (int wish = 0; wish < MOST_ASKED; wish++) {
            if ((hindering & wishBit(wish)) != 0) {
                if (before == i) {
                    return wish;
                }
                before++;
            }
        }
        throw new NoSuchElementException("the core has no such need");
    }

    public int count(int what) {
        switch (what) {
            case 0:
                return Integer.bitCount(catalog.there);
            case 1:
                return catalog.allNeeds();
            case 2:
                return catalog.bans;
            case 3:
                return wishes.size;
            case 4:
                return Integer.bitCount(told);
            case 5:
                return Integer.bitCount(kept);
            case 6:
                return differing(told, kept);
            default:
                return NONE;
        }
    }

    /** Tallies the choices there are if only this subset is asked, up to a limit: how many. */
    private int tallyChoices(int subset, int aim, int limit) {
        tally.begin(aim, limit);
        int required = wishes.union(wishes.wanted, subset);
        int refused = wishes.union(wishes.unmet, subset);
        explore(required, 0, catalog.there & ~refused, 0);
        return tally.found;
    }

    // Only packages that something asks for or needs are ever settled, so none is chosen for nothing;
    // and each choice is come upon once, as which package is settled next depends on the settled ones.
    private void explore(int required, int settled, int allowed, int depth) {
        if (depth > PACKAGES || tally.isFull() || (required & ~marksOf(allowed)) != 0) {
            return;
        }
        int open = required & ~settled;
        if (open == 0) {
            int choice = allowed & (required * ALL_OF_ONE);
            tally.enter(choice, costOf(choice));
            return;
        }
        int place = lowestPlace(open);
        int end = Math.min(place + VERSIONS, SLOTS);
        for (int slot = place; slot < end; slot++) {
            if (holds(allowed, slot)) {
                int others = (ALL_OF_ONE << place) & ~(1 << slot);
                explore(required | catalog.wanted[slot], settled | (1 << place),
                    allowed & ~(others | catalog.unmet[slot] | catalog.banned[slot]), depth + 1);
            }
        }
    }

    /** Of two choices the one that costs less is better; of equals, the greater number. */
    private int costOf(int choice) {
        switch (tally.aim) {
            case FEWEST_PACKAGES:
                return Integer.bitCount(choice);
            case FEWEST_CHANGES:
                return differing(choice, kept);
            default:
                return 0;
        }
    }

    // Of sets of one size the one that is less where they first differ is the greater number, as
    // wish 0 has the highest bit: so the first that is found on the way down is the one that is due.
    private int fewestHindering() {
        int all = wishes.all();
        for (int size = 1; size <= MOST_ASKED; size++) {
            for (int subset = all; subset > 0; subset--) {
                if ((subset & ~all) == 0 && Integer.bitCount(subset) == size
                    && tallyChoices(subset, 0, 1) == 0) {
                    return subset;
                }
            }
        }
        return 0;
    }

    private static boolean isPackage(int p) {
        return p >= 0 && p < PACKAGES;
    }

    private static boolean isVersion(int p, int v) {
        return isPackage(p) && v >= 0 && v < VERSIONS;
    }

    private static boolean isNeed(int q, int a, int b) {
        return isVersion(q, a) && isVersion(q, b) && a <= b;
    }

    private static boolean isSlot(int slot) {
        return slot >= 0 && slot < SLOTS;
    }

    private static int placeOf(int p) {
        return (PACKAGES - 1 - p) * VERSIONS;
    }

    private static int slotOf(int p, int v) {
        return placeOf(p) + v;
    }

    private static int markOf(int p) {
        return 1 << placeOf(p);
    }

    private static int wishBit(int wish) {
        return 1 << (MOST_ASKED - 1 - wish);
    }

    private static boolean holds(int set, int slot) {
        return (set & (1 << slot)) != 0;
    }

    /** The versions of package q that are not from a to b. */
    private static int outside(int q, int a, int b) {
        int inside = (1 << (b + 1)) - (1 << a);
        return (ALL_OF_ONE & ~inside) << placeOf(q);
    }

    /** The marks of the packages of which the set holds a version. */
    private static int marksOf(int set) {
        return (set | (set >> 1) | (set >> 2) | (set >> 3)) & ALL_MARKS;
    }

    private static int differing(int choice, int other) {
        return Integer.bitCount(marksOf(choice ^ other));
    }

    /** The place of the lowest of some marks; the bits below a mark are as many as its place. */
    private static int lowestPlace(int marks) {
        return Integer.bitCount((marks & -marks) - 1);
    }

    /** The versions that are there, their needs, and the bans. */
    private static final class Catalog {
        final int[] needs = new int[SLOTS];
        final int[] wanted = new int[SLOTS];
        final int[] unmet = new int[SLOTS];
        final int[] banned = new int[SLOTS];
        int there = 0;
        int bans = 0;

        boolean has(int slot) {
            return isSlot(slot) && holds(there, slot);
        }

        boolean add(int slot) {
            if (!isSlot(slot) || has(slot)) {
                return false;
            }
            there |= 1 << slot;
            return true;
        }

        boolean remove(int slot) {
            if (!has(slot)) {
                return false;
            }
            there &= ~(1 << slot);
            needs[slot] = 0;
            wanted[slot] = 0;
            unmet[slot] = 0;
            return true;
        }

        boolean addNeed(int slot, int mark, int refused) {
            if (!has(slot) || needs[slot] >= MOST_NEEDS) {
                return false;
            }
            needs[slot]++;
            wanted[slot] |= mark;
            unmet[slot] |= refused;
            return true;
        }

        boolean addBan(int slot, int other) {
            if (!isSlot(slot) || !isSlot(other) || bans >= MOST_BANS) {
                return false;
            }
            bans++;
            banned[slot] |= 1 << other;
            banned[other] |= 1 << slot;
            return true;
        }

        int allNeeds() {
            int sum = 0;
            for (int slot = 0; slot < SLOTS; slot++) {
                sum += needs[slot];
            }
            return sum;
        }
    }

    /** The asked needs, in their order. */
    private static final class Wishes {
        final int[] wanted = new int[MOST_ASKED];
        final int[] unmet = new int[MOST_ASKED];
        int size = 0;

        boolean add(int mark, int refused) {
            if (size >= MOST_ASKED) {
                return false;
            }
            wanted[size] = mark;
            unmet[size] = refused;
            size++;
            return true;
        }

        boolean remove(int wish) {
            if (wish < 0 || wish >= size) {
                return false;
            }
            size--;
            for (int i = wish; i < size; i++) {
                wanted[i] = wanted[i + 1];
                unmet[i] = unmet[i + 1];
            }
            return true;
        }

        int all() {
            int subset = 0;
            for (int i = 0; i < size; i++) {
                subset |= wishBit(i);
            }
            return subset;
        }

        int union(int[] sets, int subset) {
            int union = 0;
            for (int i = 0; i < size && i < sets.length; i++) {
                if ((subset & wishBit(i)) != 0) {
                    union |= sets[i];
                }
            }
            return union;
        }
    }

    /** What is known of the choices that one search has come upon. */
    private static final class Tally {
        int aim = 0;
        int limit = 0;
        int found = 0;
        int seen = 0;
        int absent = 0;
        int best = 0;
        int bestCost = 0;

        void begin(int newAim, int newLimit) {
            aim = newAim;
            limit = newLimit;
            found = 0;
            seen = 0;
            absent = 0;
            best = 0;
            bestCost = 0;
        }

        boolean isFull() {
            return found >= limit;
        }

        void enter(int choice, int cost) {
            if (found == 0 || cost < bestCost || (cost == bestCost && choice > best)) {
                best = choice;
                bestCost = cost;
            }
            found++;
            seen |= choice;
            absent |= ALL_MARKS & ~marksOf(choice);
        }
    }
}
