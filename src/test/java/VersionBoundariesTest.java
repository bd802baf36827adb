import java.util.Set;
import java.util.function.Supplier;
import java.util.function.ToIntFunction;

/** The boundary cases of the document's "2 VERSIONS", one test for each of its sentences. */
public final class VersionBoundariesTest {
    private static final int NONE = DesignPages.NONE;
    private static final int OUTSIDE = DesignPages.OUTSIDE;
    private static final int CUT = DesignPages.CUT;
    private static final int DAMAGED = DesignPages.DAMAGED;
    private static final int DOWN = DesignPages.DOWN;
    private static final int FULL = DesignPages.FULL;
    private static final int MIN = Integer.MIN_VALUE;
    private static final int MAX = Integer.MAX_VALUE;
    private static final int LAST = Stores.LAST_VERSION;

    public static void main(String[] args) {
        keptVersions();
        reachedByVersions();
        notRightTellsNone();
        freePages();
        thingOnTheLeastFreePage();
        nodeOnTheNextFreePage();
        nodeOfTheNewestVersion();
        rootOfTheNewestVersion();
        oldestOfAChange();
        newestOfAChange();
        damagedBeforeAChange();
        powerFails();
        powerFailsAtTheLastPage();
        downThen();
        newestToOpen();
        oldestToOpen();
        refusals();
        Check.end();
    }

    // ---- kept versions

    private static void keptVersions() {
        Check.says("from OLDEST to NEWEST they are KEPT (none at first; NEWEST is 0 then, OLDEST 1)");
        DesignPages x = new DesignPages(12);
        Check.due("NEWEST", x.count(0), 0);
        Check.due("OLDEST", x.count(1), 1);
        keptFrom("none", () -> new DesignPages(12), 1, 0);
        keptFrom("one", () -> Stores.upTo(1), 1, 1);
        keptFrom("three", () -> Stores.upTo(3), 1, 3);
        keptFrom("eight", () -> Stores.upTo(8), 1, 8);
        keptFrom("nine were made", () -> Stores.upTo(9), 2, 9);
        keptFrom("seventeen were made", () -> Stores.upTo(17), 10, 17);
        keptFrom("all but the last let go", () -> dropped(9, 8), 9, 9);
        keptFrom("some let go", () -> dropped(9, 4), 5, 9);
    }

    private static DesignPages dropped(int newest, int version) {
        DesignPages x = Stores.upTo(newest);
        x.drop(version);
        return x;
    }

    private static void keptFrom(String what, Supplier<DesignPages> made, int oldest, int newest) {
        DesignPages x = made.get();
        Check.due(what + ", NEWEST", x.count(0), newest);
        Check.due(what + ", OLDEST", x.count(1), oldest);
        for (int version = oldest; version <= newest; version++) {
            String kept = what + ", kept " + version;
            Check.due(kept + ", length()", x.length(version, 7), 1);
            Check.due(kept + ", find()", x.find(version, 7, 0), version);
            Check.due(kept + ", next()", x.next(version, 0), 7);
        }
        for (int version : new int[] {oldest - 1, newest + 1, 0, -1, -8, MIN, MAX}) {
            String not = what + ", not kept " + version;
            Unchanged.due(not + ", length()", made, y -> y.length(version, 7), OUTSIDE);
            Unchanged.due(not + ", find()", made, y -> y.find(version, 7, 0), OUTSIDE);
            Unchanged.due(not + ", next()", made, y -> y.next(version, 0), OUTSIDE);
            Unchanged.due(not + ", drop()", made, y -> y.drop(version), OUTSIDE);
        }
    }

    // ---- reached and free pages

    private static void reachedByVersions() {
        Check.says("PAGES ARE REACHED by the roots of all kept versions");
        for (int newest = 1; newest <= 10; newest++) {
            DesignPages x = Stores.upTo(newest);
            for (int page = 0; page < 8; page++) {
                x.poke(page, 43, 1);
                boolean reached = newest >= 8 || page >= 1 && page <= newest;
                Check.due("root page " + page + " at " + newest, x.badAt(), reached ? page : NONE);
                x.poke(page, 43, 1);
            }
        }
        DesignPages y = dropped(9, 8);
        for (int page = 0; page < 8; page++) {
            y.poke(page, 43, 1);
            Check.due("root page " + page + " when only 9 is kept", y.badAt(), page == 1 ? 1 : NONE);
            y.poke(page, 43, 1);
        }
    }

    private static void notRightTellsNone() {
        Check.says("what is not right (as the kind that it must be there) is reached, but tells none");
        reachedWith("nothing", 6, NONE);
        reachedWith("a thing", 6, 8, 8);
        reachedWith("a node of all versions", 7, 9, 9);
        reachedWith("a node and its thing", 7, 9, 9, 8);
        reachedWith("an old root, the others tell the same", 6, 1, 1);
        reachedWith("the newest root", 8, 3, 3);
        reachedWith("the two newest roots", 10, 2, 2, 3);
        reachedWith("all roots", 12, 1, 1, 2, 3);
        DesignPages x = Stores.three();
        Image.force(x, 10, Image.node(1, 0, 19));
        Check.due("a node where a thing must be", x.badAt(), 10);
        Check.due("it tells no thing", x.count(2), 6);
        DesignPages y = Stores.three();
        Image.force(y, 11, Image.root(3, 3, 8, 19));
        Check.due("a root where a node must be", y.badAt(), 11);
        Check.due("it tells no node, and no thing", y.count(2), 7);
        DesignPages z = Stores.three();
        Image.force(z, 3, Image.node(0, 5, 8));
        Check.due("a node where a root must be", z.badAt(), 3);
        Check.due("it tells no thing, and no node", z.count(2), 8);
    }

    private static void reachedWith(String what, int free, int bad, int... poked) {
        DesignPages x = Stores.three();
        for (int page : poked) {
            x.poke(page, 43, 255);
        }
        Check.due(what + " is not right, free pages", x.count(2), free);
        Check.due(what + " is not right, badAt()", x.badAt(), bad);
    }

    private static void freePages() {
        Check.says("FREE are pages 8 and on that are not reached");
        for (int pages : new int[] {12, 13, 119, 120}) {
            DesignPages x = new DesignPages(pages);
            Check.due("all but 8 of " + pages, x.count(2), pages - 8);
            x.put(0);
            Check.due("all but 10 of " + pages, x.count(2), pages - 10);
            Check.due("no thing below page 8", x.byteAt(8, 0), 3);
            Check.due("no node below page 8", x.byteAt(9, 0), 2);
        }
        DesignPages y = Stores.left(0);
        Check.due("none", y.count(2), 0);
        Check.due("roots' pages that are not reached are not free", y.put(0), FULL);
        y.poke(2, 0, 1);
        y.poke(1, 0, 1);
        Check.due("all of them", y.count(2), 4);
    }

    // ---- a change

    private static void thingOnTheLeastFreePage() {
        Check.says("a THING on the least free page (only if there is one)");
        DesignPages x = Stores.left(1);
        x.drop(1);
        Check.due("a hole of one page", Stores.put(x, 2, 5), 3);
        Image.due("thing in the hole", x, 9, Image.thing(2, 5));
        DesignPages y = Stores.left(2);
        Check.due("the last two pages", Stores.put(y, 2, 5), 3);
        Image.due("thing on page P - 2", y, 12, Image.thing(2, 5));
        Image.due("node on page P - 1", y, 13, Image.node(0, 0, 8, 1, 10, 2, 12));
        DesignPages z = Stores.left(2);
        Check.due("without a thing", z.remove(0), 3);
        Image.due("node on the least free page", z, 12, Image.node(0, 1, 10));
        Image.due("nothing on the next", z, 13, Image.empty());
        Check.due("two pages", z.written(), 8);
    }

    private static void nodeOnTheNextFreePage() {
        Check.says("a NODE on the least free one but that");
        DesignPages x = Stores.left(1);
        x.drop(1);
        Stores.put(x, 2, 5);
        Image.due("node behind the hole", x, 12, Image.node(0, 0, 8, 1, 10, 2, 9));
        DesignPages y = Stores.three();
        Stores.put(y, 5, 9);
        y.drop(3);
        Stores.put(y, 40, 8);
        Image.due("thing in a hole of two pages", y, 8, Image.thing(40, 8));
        Image.due("node in a hole of two pages", y, 9, Image.node(1, 8, 8));
        Stores.put(y, 1, 7);
        Image.due("thing behind it", y, 16, Image.thing(1, 7));
        Image.due("node behind it", y, 17, Image.node(0, 1, 16, 5, 14));
    }

    private static void nodeOfTheNewestVersion() {
        Check.says("the node of the newest version, or an empty one, with the thing's page, or 0, as told");
        DesignPages x = new DesignPages(20);
        Image.force(x, 0, Image.root(8, 8, 0, 19));
        Image.force(x, 19, Image.node(0, 1, 18));
        x.put(5);
        Image.due("an empty one, whatever page 0 tells", x, 9, Image.node(0, 5, 8));
        x.put(6);
        Image.due("the newest version's", x, 11, Image.node(0, 5, 8, 6, 10));
        x.remove(5);
        Image.due("0 in it", x, 12, Image.node(0, 6, 10));
        x.put(7);
        Image.due("not an older version's", x, 14, Image.node(0, 6, 10, 7, 13));
        x.put(6);
        Image.due("a page in place of another", x, 16, Image.node(0, 6, 15, 7, 13));

        DesignPages y = new DesignPages(12);
        y.put(5);
        y.remove(5);
        Image.due("the last thing goes", y, 10, Image.node(0));
        Image.due("its empty node is told", y, 2, Image.root(2, 1, 0, 10));
        y.drop(1);
        y.put(6);
        Image.due("an empty one that is told", y, 9, Image.node(0, 6, 8));

        DesignPages z = new DesignPages(120);
        for (int key = 32; key < 64; key++) {
            z.put(key);
        }
        Check.due("a full node", z.count(3), 32);
        Check.due("its next one", z.next(32, 63), 63);
        Check.due("none behind it", z.length(32, 64), NONE);
        Check.due("a key of it anew", z.put(32), 33);
        Check.due("as full as before", z.count(3), 32);
    }

    private static void rootOfTheNewestVersion() {
        Check.says("and the ROOT (that of the newest version, or an empty one, with v, the node's page");
        DesignPages x = new DesignPages(20);
        Image.force(x, 0, Image.root(8, 8, 5, 19));
        x.put(0);
        Image.due("an empty one, whatever page 0 holds", x, 1, Image.root(1, 1, 0, 9));
        x.put(32);
        Image.due("the newest version's", x, 2, Image.root(2, 1, 0, 9, 1, 11));
        x.put(1);
        Image.due("a page in place of another", x, 3, Image.root(3, 1, 0, 13, 1, 11));

        DesignPages y = Stores.upTo(8);
        Image.due("root 8 wraps around to page 0", y, 0, Image.root(8, 1, 0, 23));
        y.put(1023);
        Image.due("root 9 has what page 0 tells", y, 1, Image.root(9, 2, 0, 23, 31, 25));

        DesignPages z = new DesignPages(120);
        for (int node = 0; node < 32; node++) {
            z.put(node * 32);
        }
        Check.due("a full root", z.count(3), 32);
        Check.due("its last node", z.next(32, 961), 992);
        Check.due("a node of it anew", z.put(992), 33);
        Check.due("as full as before", z.count(3), 32);
    }

    private static void oldestOfAChange() {
        Check.says("as OLDEST the greater one of OLDEST and v - 7");
        for (int v = 1; v <= 20; v++) {
            DesignPages x = Stores.upTo(v);
            Check.due("of version " + v, x.count(1), v <= 8 ? 1 : v - 7);
            Check.due("in root " + v, x.byteAt(v % 8, 8), v <= 8 ? 1 : v - 7);
        }
        for (int oldest = 2; oldest <= 9; oldest++) {
            DesignPages x = dropped(9, oldest - 1);
            for (int v = 10; v <= 18; v++) {
                Check.due("OLDEST " + oldest + ", version " + v, x.put(7), v);
                Check.due("OLDEST " + oldest + " at " + v, x.count(1), Math.max(oldest, v - 7));
            }
        }
        for (int v = 7; v <= 10; v++) {
            DesignPages x = Stores.upTo(v - 1);
            Check.due("remove() makes " + v, x.remove(7), v);
            Check.due("remove(), OLDEST at " + v, x.count(1), v <= 8 ? 1 : v - 7);
            Check.due("remove(), OLDEST in root " + v, x.byteAt(v % 8, 8), v <= 8 ? 1 : v - 7);
        }
        DesignPages y = Stores.openedAtEight(20, LAST - 1);
        Check.due("OLDEST before the last version", y.count(1), LAST - 8);
        Check.due("the last version", y.put(7), LAST);
        Image.due("the last version's root", y, 0, Image.root(LAST, LAST - 7, 0, 9));
        Check.due("OLDEST at the last version", y.count(1), LAST - 7);
    }

    private static void newestOfAChange() {
        Check.says("Then v is NEWEST, and OLDEST is as the root tells");
        DesignPages x = Stores.upTo(8);
        Check.due("NEWEST before", x.count(0), 8);
        Check.due("OLDEST before", x.count(1), 1);
        x.put(8);
        Check.due("NEWEST behind put()", x.count(0), 9);
        Check.due("OLDEST behind put()", x.count(1), x.byteAt(1, 8));
        x.remove(8);
        Check.due("NEWEST behind remove()", x.count(0), 10);
        Check.due("OLDEST behind remove()", x.count(1), x.byteAt(2, 8));
        Check.due("the root's NEWEST", x.reopen(), 10);
        Check.due("the root's OLDEST", x.count(1), 3);
        for (int pages = 1; pages <= 3; pages++) {
            DesignPages y = Stores.upTo(8);
            y.crash(pages);
            Check.due("cut at " + pages, y.put(8), CUT);
            Check.due("NEWEST, cut at " + pages, y.reopen(), pages < 3 ? 8 : 9);
            Check.due("OLDEST, cut at " + pages, y.count(1), pages < 3 ? 1 : 2);
            Check.due("version 1, cut at " + pages, y.find(1, 7, 0), pages < 3 ? 1 : OUTSIDE);
        }
    }

    private static void damagedBeforeAChange() {
        Check.says("BEFORE A CHANGE, or drop(): DAMAGED, if a reached page is not right");
        Set<Integer> reached = Set.of(1, 2, 3, 8, 9, 10, 11, 12, 13);
        for (int page = 0; page < 20; page++) {
            int bad = page;
            Supplier<DesignPages> made = () -> {
                DesignPages x = Stores.three();
                Stores.typeAll(x, 7, 8, 9);
                x.poke(bad, 20, 4);
                return x;
            };
            String with = ", page " + bad + " is changed";
            if (reached.contains(bad)) {
                damaged("put(6)" + with, made, x -> x.put(6), bad);
                damaged("remove(5)" + with, made, x -> x.remove(5), bad);
                damaged("remove(6)" + with, made, x -> x.remove(6), bad);
                damaged("drop(1)" + with, made, x -> x.drop(1), bad);
                damaged("drop(2)" + with, made, x -> x.drop(2), bad);
            } else {
                Check.due("put(6)" + with, made.get().put(6), 4);
                Check.due("remove(5)" + with, made.get().remove(5), 4);
                Check.due("remove(6)" + with, made.get().remove(6), 0);
                Check.due("drop(1)" + with, made.get().drop(1), 2);
            }
        }
        DesignPages y = Stores.three();
        y.poke(3, 20, 4);
        Check.due("the newest root is not right", y.put(6), DAMAGED);
        Check.due("it is not opened", y.reopen(), 2);
        Check.due("and not reached then", y.put(6), 3);
        DesignPages z = new DesignPages(12);
        z.poke(1, 0, 1);
        Check.due("no version is kept, so no page is reached", z.put(6), 1);
    }

    private static void damaged(String what, Supplier<DesignPages> made, ToIntFunction<DesignPages> call, int bad) {
        Unchanged.due(what, made, call, DAMAGED, x -> x.poke(bad, 20, 4));
    }

    // ---- power

    private static void powerFails() {
        Check.says("when as many pages were written as crash() told, it fails");
        for (int told = 1; told <= 30; told++) {
            DesignPages x = new DesignPages(40);
            x.crash(told);
            String at = "told " + told + ", ";
            for (int v = 1; v <= (told - 1) / 3; v++) {
                Check.due(at + "put", x.put(7), v);
                Check.due(at + "refused", x.put(-1), OUTSIDE);
                Check.due(at + "nothing to remove", x.remove(8), 0);
                Check.due(at + "there is power", x.isDown(), false);
            }
            Check.due(at + "the last put", x.put(7), CUT);
            Check.due(at + "there is none", x.isDown(), true);
            Check.due(at + "written", x.written(), told);
        }
        int[][] cuts = {{1, 0, 0}, {2, 2, 0}, {3, 2, 1}};
        for (int[] cut : cuts) {
            DesignPages x = new DesignPages(12);
            x.crash(cut[0]);
            x.put(7);
            Check.due("thing, told " + cut[0], x.byteAt(8, 0), 3);
            Check.due("node, told " + cut[0], x.byteAt(9, 0), cut[1]);
            Check.due("root, told " + cut[0], x.byteAt(1, 0), cut[2]);
        }
    }

    private static void powerFailsAtTheLastPage() {
        Check.says("the call that wrote the last of them answers CUT (also if that was its last page)");
        cut("put()", () -> Stores.upTo(2), x -> x.put(7), 3, 3, 1);
        cut("remove()", () -> Stores.upTo(2), x -> x.remove(7), 2, 3, 1);
        cut("drop()", () -> Stores.upTo(2), x -> x.drop(1), 1, 2, 2);
        cut("put() that lets one go", () -> Stores.upTo(8), x -> x.put(7), 3, 9, 2);
        cut("remove() that lets one go", () -> Stores.upTo(8), x -> x.remove(7), 2, 9, 2);
    }

    /** The call writes so many pages: one less, as many and one more are told. */
    private static void cut(String what, Supplier<DesignPages> made, ToIntFunction<DesignPages> call, int pages,
            int newest, int oldest) {
        int whole = call.applyAsInt(made.get());
        DesignPages x = made.get();
        x.crash(pages + 1);
        Check.due(what + ", one more is told", call.applyAsInt(x), whole);
        Check.due(what + ", there is power", x.isDown(), false);
        DesignPages y = made.get();
        y.crash(pages);
        Check.due(what + ", as many are told", call.applyAsInt(y), CUT);
        Check.due(what + ", there is none", y.isDown(), true);
        Check.due(what + ", written all", y.written() - made.get().written(), pages);
        Check.due(what + ", NEWEST is there", y.reopen(), newest);
        Check.due(what + ", OLDEST is there", y.count(1), oldest);
        if (pages > 1) {
            DesignPages z = made.get();
            int before = z.count(0);
            int oldestBefore = z.count(1);
            z.crash(pages - 1);
            Check.due(what + ", one less is told", call.applyAsInt(z), CUT);
            Check.due(what + ", written one less", z.written() - made.get().written(), pages - 1);
            Check.due(what + ", NEWEST as before", z.reopen(), before);
            Check.due(what + ", OLDEST as before", z.count(1), oldestBefore);
        }
    }

    private static void downThen() {
        Check.says("The store is DOWN then: typed bytes are gone, versions are not told any more");
        for (int way = 0; way < 4; way++) {
            int how = way;
            Supplier<DesignPages> made = () -> failed(how);
            String by = ", power failed in way " + way;
            Unchanged.due("type()" + by, made, x -> x.type(1), DOWN);
            Unchanged.due("put()" + by, made, x -> x.put(7), DOWN);
            Unchanged.due("remove()" + by, made, x -> x.remove(7), DOWN);
            Unchanged.due("drop()" + by, made, x -> x.drop(1), DOWN);
            Unchanged.due("length()" + by, made, x -> x.length(2, 7), DOWN);
            Unchanged.due("find()" + by, made, x -> x.find(2, 7, 0), DOWN);
            Unchanged.due("next()" + by, made, x -> x.next(2, 0), DOWN);
            Unchanged.due("crash()" + by, made, x -> x.crash(NONE), DOWN);
            Unchanged.due("crash(1)" + by, made, x -> x.crash(1), DOWN);
            Unchanged.due("badAt()" + by, made, DesignPages::badAt, DOWN);
            for (int what = 0; what <= 4; what++) {
                int counted = what;
                Unchanged.due("count(" + what + ")" + by, made, x -> x.count(counted), DOWN);
            }
            DesignPages y = made.get();
            y.reopen();
            Check.due("none are typed" + by, y.count(4), 0);
            int version = y.put(100);
            Check.due("none are put" + by, y.length(version, 100), 0);
        }
    }

    /** Versions 1 to 3 and two typed bytes, then the power fails: at once, in put(), remove() or drop(). */
    private static DesignPages failed(int way) {
        DesignPages x = Stores.upTo(3);
        Stores.typeAll(x, 50, 60);
        x.crash(way == 0 ? 0 : 1);
        if (way == 1) {
            x.put(7);
        } else if (way == 2) {
            x.remove(7);
        } else if (way == 3) {
            x.drop(1);
        }
        return x;
    }

    // ---- to open

    private static void newestToOpen() {
        Check.says("NEWEST is the greatest VERSION of a page 0 .. 7 that is RIGHT as a ROOT (0 without one)");
        Check.due("without one", new DesignPages(12).reopen(), 0);
        for (int page = 0; page < 8; page++) {
            int version = page == 0 ? 8 : page;
            Check.due("only on page " + page, Stores.openedAt(12, version, version).count(0), version);
            DesignPages x = Stores.upTo(10);
            x.poke(page, 30, 1);
            Check.due("not right on page " + page, x.reopen(), page == 2 ? 9 : 10);
        }
        for (int newest = 1; newest <= 17; newest++) {
            Check.due("of " + newest, Stores.upTo(newest).reopen(), newest);
        }
        DesignPages y = Stores.upTo(9);
        for (int version = 9; version >= 2; version--) {
            Check.due("down to " + version, y.reopen(), version);
            y.poke(version % 8, 47, 1);
        }
        Check.due("down to none", y.reopen(), 0);
        DesignPages z = new DesignPages(20);
        Image.force(z, 8, Image.root(8, 8));
        Image.force(z, 15, Image.root(15, 15));
        Check.due("pages 8 and on are not looked at", z.reopen(), 0);
        Check.due("the last version", Stores.openedAt(12, LAST, LAST).count(0), LAST);
        Check.due("behind the last version", Stores.openedAt(12, LAST + 1, LAST).count(0), 0);
    }

    private static void oldestToOpen() {
        Check.says("OLDEST as it tells (1 without one)");
        Check.due("without one", reopenedOldest(new DesignPages(12)), 1);
        for (int oldest = 2; oldest <= 9; oldest++) {
            Check.due("as root 9 tells", reopenedOldest(dropped(9, oldest - 1)), oldest);
        }
        Check.due("7 below", Stores.openedAt(12, 500, 493).count(1), 493);
        Check.due("as VERSION", Stores.openedAt(12, 500, 500).count(1), 500);
        DesignPages x = dropped(9, 8);
        x.poke(1, 47, 1);
        Check.due("an older root is opened", x.reopen(), 8);
        Check.due("as that one tells", x.count(1), 1);
        DesignPages y = dropped(3, 2);
        for (int page = 1; page <= 3; page++) {
            y.poke(page, 47, 1);
        }
        Check.due("1 again without one", reopenedOldest(y), 1);
    }

    private static int reopenedOldest(DesignPages x) {
        x.reopen();
        return x.count(1);
    }

    // ---- refusals

    /** Without a free page, damaged, with 32 typed bytes, and down or not: all refusals would fit. */
    private static DesignPages worst(boolean damaged, boolean down) {
        DesignPages x = Stores.left(0);
        for (int i = 0; i < 32; i++) {
            x.type(100 + i);
        }
        x.crash(1);
        if (damaged) {
            x.poke(8, 20, 1);
        }
        if (down) {
            x.crash(0);
        }
        return x;
    }

    private static void refusals() {
        Check.says("REFUSALS change nothing; the first that fits: DOWN, OUTSIDE (a key, version that is not kept,"
                + " page, what, number), DAMAGED, FULL.");
        first("type(1)", x -> x.type(1), FULL, FULL);
        first("type(256)", x -> x.type(256), OUTSIDE, OUTSIDE);
        first("type(-1)", x -> x.type(-1), OUTSIDE, OUTSIDE);
        first("put(2)", x -> x.put(2), DAMAGED, FULL);
        first("put(1024)", x -> x.put(1024), OUTSIDE, OUTSIDE);
        first("put(-1)", x -> x.put(-1), OUTSIDE, OUTSIDE);
        first("remove(0)", x -> x.remove(0), DAMAGED, FULL);
        first("remove(2)", x -> x.remove(2), DAMAGED, 0);
        first("remove(1024)", x -> x.remove(1024), OUTSIDE, OUTSIDE);
        first("drop(2)", x -> x.drop(2), OUTSIDE, OUTSIDE);
        first("drop(0)", x -> x.drop(0), OUTSIDE, OUTSIDE);
        first("length(2, 0)", x -> x.length(2, 0), DAMAGED, 1);
        first("length(3, 0)", x -> x.length(3, 0), OUTSIDE, OUTSIDE);
        first("length(2, 1024)", x -> x.length(2, 1024), OUTSIDE, OUTSIDE);
        first("find(2, 0, 0)", x -> x.find(2, 0, 0), DAMAGED, 1);
        first("find(2, 0, -1)", x -> x.find(2, 0, -1), DAMAGED, NONE);
        first("find(0, 0, 0)", x -> x.find(0, 0, 0), OUTSIDE, OUTSIDE);
        first("find(2, -1, 0)", x -> x.find(2, -1, 0), OUTSIDE, OUTSIDE);
        first("next(2, 0)", x -> x.next(2, 0), 0, 0);
        first("next(3, 0)", x -> x.next(3, 0), OUTSIDE, OUTSIDE);
        first("next(2, 1024)", x -> x.next(2, 1024), OUTSIDE, OUTSIDE);
        first("crash(-2)", x -> x.crash(-2), OUTSIDE, OUTSIDE);
        first("crash(1001)", x -> x.crash(1001), OUTSIDE, OUTSIDE);
        first("badAt()", DesignPages::badAt, 8, NONE);
        first("count(5)", x -> x.count(5), OUTSIDE, OUTSIDE);
        first("count(-1)", x -> x.count(-1), OUTSIDE, OUTSIDE);
        Unchanged.due("drop(1) when damaged", () -> worst(true, false), x -> x.drop(1), DAMAGED,
                x -> x.poke(8, 20, 1));
        Unchanged.due("drop(1) when damaged and down", () -> worst(true, true), x -> x.drop(1), DOWN);
        for (boolean down : new boolean[] {false, true}) {
            Supplier<DesignPages> made = () -> worst(true, down);
            String when = down ? " when down" : "";
            Unchanged.due("poke of page 12" + when, made, x -> x.poke(12, 0, 1), OUTSIDE);
            Unchanged.due("poke of byte 48" + when, made, x -> x.poke(8, 48, 1), OUTSIDE);
            Unchanged.due("poke by 256" + when, made, x -> x.poke(8, 0, 256), OUTSIDE);
            Unchanged.due("byteAt of page 12" + when, made, x -> x.byteAt(12, 0), OUTSIDE);
            Unchanged.due("byteAt of byte 48" + when, made, x -> x.byteAt(8, 48), OUTSIDE);
        }
    }

    private static void first(String call, ToIntFunction<DesignPages> asked, int damaged, int whole) {
        Unchanged.due(call + " when down", () -> worst(false, true), asked, DOWN);
        Unchanged.due(call + " when damaged and down", () -> worst(true, true), asked, DOWN);
        Unchanged.due(call + " when damaged", () -> worst(true, false), asked, damaged, x -> x.poke(8, 20, 1));
        Unchanged.due(call + " when not damaged", () -> worst(false, false), asked, whole);
    }
}
