import java.util.Arrays;

/**
 * Things of a design, kept on pages by versions. A change only ever writes pages that no kept
 * version reaches, and its root last, so that a power failure leaves what was there before whole.
 */
public final class DesignPages {
    public static final int NONE = -1;
    public static final int OUTSIDE = -2;
    public static final int CUT = -3;
    public static final int DAMAGED = -4;
    public static final int DOWN = -5;
    public static final int FULL = -6;

    private static final int NO_REFUSAL = 0;

    private static final int LEAST_PAGES = 12;
    private static final int MOST_PAGES = 120;
    private static final int PAGE_BYTES = 48;
    private static final int SUM_AT = 44;

    private static final int ROOT = 1;
    private static final int NODE = 2;
    private static final int THING = 3;

    private static final int VERSION_AT = 1;
    private static final int OLDEST_AT = 5;
    private static final int NODES_AT = 9;

    private static final int NODE_NUMBER_AT = 1;
    private static final int THINGS_AT = 2;

    private static final int KEY_AT = 1;
    private static final int LENGTH_AT = 3;
    private static final int TEXT_AT = 4;

    private static final int ROOT_PAGES = 8;
    private static final int LAST_VERSION = 1000000;
    private static final int PLACES = 32;
    private static final int NODES = PLACES;
    private static final int THINGS = PLACES;
    private static final int KEYS = NODES * THINGS;
    private static final int MOST_TYPED = 32;
    private static final int MOST_CRASH = 1000;

    private final Pages disk;
    private final Reach reach;
    private final Power power;
    private final int[] typed;
    /**
     * The pages that the root or node to be written tells. Nothing but these is taken over from the
     * newest version's pages: the rest may have been changed by poke(), with a sum that fits.
     */
    private final int[] places;
    private int typedCount;
    private int newest;
    private int oldest;

    public DesignPages(int pages) {
        int amount = Math.max(LEAST_PAGES, Math.min(MOST_PAGES, pages));
        disk = new Pages(amount);
        reach = new Reach(amount);
        power = new Power();
        typed = new int[MOST_TYPED];
        places = new int[PLACES];
        typedCount = 0;
        newest = 0;
        oldest = 1;
    }

    public int type(int b) {
        if (power.isOff()) {
            return DOWN;
        }
        if (b < 0 || b > 255) {
            return OUTSIDE;
        }
        if (typedCount >= MOST_TYPED) {
            return FULL;
        }
        typed[typedCount] = b;
        typedCount++;
        return typedCount;
    }

    public int put(int key) {
        int refusal = refusalOfWriting(isKey(key));
        if (refusal != NO_REFUSAL) {
            return refusal;
        }
        int thingPage = reach.freeFrom(ROOT_PAGES);
        int nodePage = thingPage == NONE ? NONE : reach.freeFrom(thingPage + 1);
        if (nodePage == NONE || newest >= LAST_VERSION) {
            return FULL;
        }
        if (!writeThing(thingPage, key)) {
            return CUT;
        }
        return writeVersion(nodePage, key, thingPage);
    }

    public int remove(int key) {
        int refusal = refusalOfWriting(isKey(key));
        if (refusal != NO_REFUSAL) {
            return refusal;
        }
        if (newest == 0 || pageOfThing(newest, key) == NONE) {
            return 0;
        }
        int nodePage = reach.freeFrom(ROOT_PAGES);
        if (nodePage == NONE || newest >= LAST_VERSION) {
            return FULL;
        }
        return writeVersion(nodePage, key, 0);
    }

    public int drop(int version) {
        int refusal = refusalOfWriting(isKept(version) && version != newest);
        if (refusal != NO_REFUSAL) {
            return refusal;
        }
        takePlacesOfNewestRoot();
        if (!writeRoot(newest, version + 1)) {
            return CUT;
        }
        oldest = version + 1;
        return newest - version;
    }

    public int length(int version, int key) {
        int page = lookUp(version, key);
        return page < 0 ? page : disk.at(page, LENGTH_AT);
    }

    public int find(int version, int key, int i) {
        int page = lookUp(version, key);
        if (page < 0) {
            return page;
        }
        if (i < 0 || i >= disk.at(page, LENGTH_AT)) {
            return NONE;
        }
        return disk.at(page, TEXT_AT + i);
    }

    public int next(int version, int key) {
        int refusal = refusalOfReading(version, key);
        if (refusal != NO_REFUSAL) {
            return refusal;
        }
        int root = pageOfRoot(version);
        if (!disk.isRight(root, ROOT)) {
            return DAMAGED;
        }
        int first = key % THINGS;
        for (int n = key / THINGS; n < NODES; n++) {
            int thing = nextThing(disk.at(root, NODES_AT + n), first);
            if (thing != NONE) {
                return thing == DAMAGED ? DAMAGED : n * THINGS + thing;
            }
            first = 0;
        }
        return NONE;
    }

    public int crash(int pages) {
        if (power.isOff()) {
            return DOWN;
        }
        if (pages < NONE || pages > MOST_CRASH) {
            return OUTSIDE;
        }
        power.failAfter(pages);
        return 1;
    }

    public int reopen() {
        power.restore();
        typedCount = 0;
        newest = 0;
        oldest = 1;
        for (int page = 0; page < ROOT_PAGES; page++) {
            if (disk.isRight(page, ROOT) && disk.numberAt(page, VERSION_AT) > newest) {
                newest = disk.numberAt(page, VERSION_AT);
                oldest = disk.numberAt(page, OLDEST_AT);
            }
        }
        return newest;
    }

    public int poke(int page, int i, int mask) {
        if (!disk.has(page, i) || mask < 1 || mask > 255) {
            return OUTSIDE;
        }
        disk.set(page, i, disk.at(page, i) ^ mask);
        return disk.at(page, i);
    }

    public int byteAt(int page, int i) {
        return disk.has(page, i) ? disk.at(page, i) : OUTSIDE;
    }

    public int badAt() {
        if (power.isOff()) {
            return DOWN;
        }
        reach.walk(disk, oldest, newest);
        return reach.leastBad();
    }

    public int count(int what) {
        if (power.isOff()) {
            return DOWN;
        }
        switch (what) {
            case 0:
                return newest;
            case 1:
                return oldest;
            case 2:
                reach.walk(disk, oldest, newest);
                return reach.freePages();
            case 3:
                return keysOfNewest();
            case 4:
                return typedCount;
            default:
                return OUTSIDE;
        }
    }

    public int written() {
        return power.pagesWritten();
    }

    public boolean isDown() {
        return power.isOff();
    }

    private static boolean isKey(int key) {
        return key >= 0 && key < KEYS;
    }

    private static int pageOfRoot(int version) {
        return version % ROOT_PAGES;
    }

    private boolean isKept(int version) {
        return version >= oldest && version <= newest;
    }

    /** What a change or drop() is refused with; without a refusal the reach is walked behind it. */
    private int refusalOfWriting(boolean inside) {
        if (power.isOff()) {
            return DOWN;
        }
        if (!inside) {
            return OUTSIDE;
        }
        reach.walk(disk, oldest, newest);
        return reach.leastBad() == NONE ? NO_REFUSAL : DAMAGED;
    }

    private int refusalOfReading(int version, int key) {
        if (power.isOff()) {
            return DOWN;
        }
        return isKept(version) && isKey(key) ? NO_REFUSAL : OUTSIDE;
    }

    private int lookUp(int version, int key) {
        int refusal = refusalOfReading(version, key);
        return refusal != NO_REFUSAL ? refusal : pageOfThing(version, key);
    }

    /** The page of a key's thing at a kept version, NONE or DAMAGED. */
    private int pageOfThing(int version, int key) {
        int root = pageOfRoot(version);
        if (!disk.isRight(root, ROOT)) {
            return DAMAGED;
        }
        int node = disk.at(root, NODES_AT + key / THINGS);
        if (node == 0) {
            return NONE;
        }
        if (!disk.isRight(node, NODE)) {
            return DAMAGED;
        }
        int thing = disk.at(node, THINGS_AT + key % THINGS);
        if (thing == 0) {
            return NONE;
        }
        return disk.isRight(thing, THING) ? thing : DAMAGED;
    }

    /** The least thing, from one on, of the node on a page (0: no node), NONE or DAMAGED. */
    private int nextThing(int nodePage, int first) {
        if (nodePage == 0) {
            return NONE;
        }
        if (!disk.isRight(nodePage, NODE)) {
            return DAMAGED;
        }
        for (int t = first; t < THINGS; t++) {
            if (disk.at(nodePage, THINGS_AT + t) != 0) {
                return t;
            }
        }
        return NONE;
    }

    private int keysOfNewest() {
        int root = pageOfRoot(newest);
        if (newest == 0 || !disk.isRight(root, ROOT)) {
            return 0;
        }
        int keys = 0;
        for (int n = 0; n < NODES; n++) {
            int node = disk.at(root, NODES_AT + n);
            if (node != 0 && disk.isRight(node, NODE)) {
                keys += disk.pagesTold(node, THINGS_AT, THINGS);
            }
        }
        return keys;
    }

    private boolean writeThing(int page, int key) {
        disk.begin(page, THING);
        disk.set(page, KEY_AT, key / 256);
        disk.set(page, KEY_AT + 1, key % 256);
        disk.set(page, LENGTH_AT, typedCount);
        for (int i = 0; i < typedCount; i++) {
            disk.set(page, TEXT_AT + i, typed[i]);
        }
        typedCount = 0;
        return finishPage(page);
    }

    /** The end of a change, behind its thing: the version that it made, or CUT. */
    private int writeVersion(int nodePage, int key, int thingPage) {
        if (!writeNode(nodePage, key, thingPage)) {
            return CUT;
        }
        int version = newest + 1;
        int oldestThen = Math.max(oldest, version - (ROOT_PAGES - 1));
        takePlacesOfNewestRoot();
        places[key / THINGS] = nodePage;
        if (!writeRoot(version, oldestThen)) {
            return CUT;
        }
        newest = version;
        oldest = oldestThen;
        return version;
    }

    private boolean writeNode(int page, int key, int thingPage) {
        int n = key / THINGS;
        takePlacesOfNode(pageOfNewestNode(n));
        places[key % THINGS] = thingPage;
        disk.begin(page, NODE);
        disk.set(page, NODE_NUMBER_AT, n);
        disk.setPlaces(page, THINGS_AT, places);
        return finishPage(page);
    }

    private boolean writeRoot(int version, int oldestThen) {
        int page = pageOfRoot(version);
        disk.begin(page, ROOT);
        disk.setNumber(page, VERSION_AT, version);
        disk.setNumber(page, OLDEST_AT, oldestThen);
        disk.setPlaces(page, NODES_AT, places);
        return finishPage(page);
    }

    private int pageOfNewestNode(int n) {
        return newest == 0 ? 0 : disk.at(pageOfRoot(newest), NODES_AT + n);
    }

    private void takePlacesOfNode(int page) {
        if (page == 0) {
            Arrays.fill(places, 0);
        } else {
            disk.takePlaces(page, THINGS_AT, places);
        }
    }

    private void takePlacesOfNewestRoot() {
        if (newest == 0) {
            Arrays.fill(places, 0);
        } else {
            disk.takePlaces(pageOfRoot(newest), NODES_AT, places);
        }
    }

    /**
     * Gives a page its sum and counts it as written; whether there is power behind that. What is
     * not on pages need not be cleared without power: no call tells it before reopen() does that.
     */
    private boolean finishPage(int page) {
        disk.seal(page);
        power.usePage();
        return !power.isOff();
    }

    /** The bytes of all pages, and when a page is right. */
    private static final class Pages {
        private static final int SUM_TURN = 9;
        private static final int SUM_FACTOR = 0x27D4EB2F;

        private final int amount;
        private final int[] bytes;

        Pages(int amount) {
            this.amount = amount;
            bytes = new int[amount * PAGE_BYTES];
        }

        boolean has(int page, int i) {
            return page >= 0 && page < amount && i >= 0 && i < PAGE_BYTES;
        }

        int at(int page, int i) {
            return bytes[page * PAGE_BYTES + i];
        }

        void set(int page, int i, int b) {
            bytes[page * PAGE_BYTES + i] = b;
        }

        int numberAt(int page, int i) {
            int start = page * PAGE_BYTES + i;
            return bytes[start] << 24 | bytes[start + 1] << 16 | bytes[start + 2] << 8 | bytes[start + 3];
        }

        void setNumber(int page, int i, int number) {
            int start = page * PAGE_BYTES + i;
            bytes[start] = number >>> 24;
            bytes[start + 1] = number >>> 16 & 255;
            bytes[start + 2] = number >>> 8 & 255;
            bytes[start + 3] = number & 255;
        }

        /** An empty page of a kind; the page may hold what an older version left there. */
        void begin(int page, int kind) {
            int start = page * PAGE_BYTES;
            Arrays.fill(bytes, start, start + PAGE_BYTES, 0);
            set(page, 0, kind);
        }

        void takePlaces(int page, int start, int[] row) {
            System.arraycopy(bytes, page * PAGE_BYTES + start, row, 0, PLACES);
        }

        void setPlaces(int page, int start, int[] row) {
            System.arraycopy(row, 0, bytes, page * PAGE_BYTES + start, PLACES);
        }

        void seal(int page) {
            setNumber(page, SUM_AT, sumOf(page));
        }

        boolean isRight(int page, int kind) {
            if (at(page, 0) != kind || numberAt(page, SUM_AT) != sumOf(page)) {
                return false;
            }
            if (kind == ROOT) {
                return tellsVersions(page) && tellsRightPages(page, NODES_AT, NODES);
            }
            if (kind == NODE) {
                return tellsRightPages(page, THINGS_AT, THINGS);
            }
            return at(page, LENGTH_AT) <= MOST_TYPED;
        }

        int pagesTold(int page, int start, int places) {
            int told = 0;
            for (int i = 0; i < places; i++) {
                if (at(page, start + i) != 0) {
                    told++;
                }
            }
            return told;
        }

        private int sumOf(int page) {
            int sum = 0;
            for (int i = 0; i < SUM_AT; i++) {
                int mixed = sum ^ at(page, i);
                sum = (mixed << SUM_TURN | mixed >>> 32 - SUM_TURN) * SUM_FACTOR;
            }
            return sum;
        }

        private boolean tellsVersions(int page) {
            int version = numberAt(page, VERSION_AT);
            int oldestTold = numberAt(page, OLDEST_AT);
            return version >= 1 && version <= LAST_VERSION && pageOfRoot(version) == page
                    && oldestTold >= 1 && oldestTold <= version
                    && oldestTold >= version - (ROOT_PAGES - 1);
        }

        private boolean tellsRightPages(int page, int start, int places) {
            for (int i = 0; i < places; i++) {
                int told = at(page, start + i);
                if (told != 0 && (told < ROOT_PAGES || told >= amount)) {
                    return false;
                }
            }
            return true;
        }
    }

    /** Which pages the kept versions reached when it was last walked. */
    private static final class Reach {
        private static final int BAD = 1;

        private final int[] marks;

        Reach(int amount) {
            marks = new int[amount];
        }

        /** One kind after the other, so that each page is looked at once as each kind it is told as. */
        void walk(Pages disk, int oldest, int newest) {
            Arrays.fill(marks, 0);
            for (int version = oldest; version <= newest; version++) {
                marks[pageOfRoot(version)] |= markOf(ROOT);
            }
            for (int kind = ROOT; kind <= THING; kind++) {
                lookAtAll(disk, kind);
            }
        }

        int leastBad() {
            for (int page = 0; page < marks.length; page++) {
                if ((marks[page] & BAD) != 0) {
                    return page;
                }
            }
            return NONE;
        }

        int freePages() {
            int free = 0;
            for (int page = ROOT_PAGES; page < marks.length; page++) {
                if (marks[page] == 0) {
                    free++;
                }
            }
            return free;
        }

        int freeFrom(int first) {
            for (int page = first; page < marks.length; page++) {
                if (marks[page] == 0) {
                    return page;
                }
            }
            return NONE;
        }

        private static int markOf(int kind) {
            return 1 << kind;
        }

        private void lookAtAll(Pages disk, int kind) {
            for (int page = 0; page < marks.length; page++) {
                if ((marks[page] & markOf(kind)) == 0) {
                    continue;
                }
                if (!disk.isRight(page, kind)) {
                    marks[page] |= BAD;
                } else if (kind == ROOT) {
                    markTold(disk, page, NODES_AT, NODES, NODE);
                } else if (kind == NODE) {
                    markTold(disk, page, THINGS_AT, THINGS, THING);
                }
            }
        }

        private void markTold(Pages disk, int page, int start, int places, int kind) {
            for (int i = 0; i < places; i++) {
                int told = disk.at(page, start + i);
                if (told != 0) {
                    marks[told] |= markOf(kind);
                }
            }
        }
    }

    /** The power, and the pages that were written with it. */
    private static final class Power {
        private boolean off;
        private int pagesLeft;
        private int used;

        Power() {
            off = false;
            pagesLeft = NONE;
            used = 0;
        }

        boolean isOff() {
            return off;
        }

        int pagesWritten() {
            return used;
        }

        void failAfter(int pages) {
            pagesLeft = pages;
            off = pages == 0;
        }

        void usePage() {
            used++;
            if (pagesLeft > 0) {
                pagesLeft--;
                off = pagesLeft == 0;
            }
        }

        void restore() {
            off = false;
            pagesLeft = NONE;
        }
    }
}
