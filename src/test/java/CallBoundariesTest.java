import java.util.function.Supplier;

/** The boundary cases of promises 1 to 16, one test for each of the document's sentences. */
public final class CallBoundariesTest {
    private static final int NONE = DesignPages.NONE;
    private static final int OUTSIDE = DesignPages.OUTSIDE;
    private static final int CUT = DesignPages.CUT;
    private static final int DAMAGED = DesignPages.DAMAGED;
    private static final int DOWN = DesignPages.DOWN;
    private static final int FULL = DesignPages.FULL;
    private static final int MIN = Integer.MIN_VALUE;
    private static final int MAX = Integer.MAX_VALUE;
    private static final int LAST = Stores.LAST_VERSION;

    public static void main(String[] args) {
        callsOfAnObject();
        newSize();
        newIsEmpty();
        typeCounts();
        typeOutside();
        typeFull();
        putHasTypedBytes();
        putLeavesTypedBytes();
        putFullOfPages();
        putFullOfVersions();
        removeHasNothing();
        removeOfNothing();
        removeRefusedBefore0();
        removeFullOfPages();
        removeFullOfVersions();
        dropLetsGo();
        dropWritesTheRoot();
        dropOutside();
        dropNeedsNoPage();
        lengthOrNone();
        lengthOfDamaged();
        findOrNone();
        findRefusals();
        nextOrNone();
        nextOfDamaged();
        crashAtOnceOrNever();
        crashOutside();
        reopenDownOrNot();
        pokeChanges();
        pokeOutside();
        byteAtOutside();
        badAtLeast();
        countOutside();
        countOfKeys();
        writtenSinceTheBeginning();
        isDown();
        Check.end();
    }

    private static int[] text(int length) {
        int[] text = new int[length];
        for (int i = 0; i < length; i++) {
            text[i] = 100 + i;
        }
        return text;
    }

    private static DesignPages typed(DesignPages x, int length) {
        Stores.typeAll(x, text(length));
        return x;
    }

    private static DesignPages failed(DesignPages x) {
        x.crash(0);
        return x;
    }

    private static DesignPages poked(DesignPages x, int... pages) {
        for (int page : pages) {
            x.poke(page, 43, 1);
        }
        return x;
    }

    // ---- an object

    private static void callsOfAnObject() {
        Check.says("An object is used for at most 512 calls after it has been made");
        DesignPages x = new DesignPages(120);
        for (int v = 1; v <= 512; v++) {
            Check.due("call " + v, x.put(v % 3), v);
        }
        DesignPages y = new DesignPages(12);
        y.put(0);
        for (int v = 2; v <= 256; v++) {
            Check.due("the least pages, version", y.put(0), v);
            Check.due("the least pages, the one before goes", y.drop(v - 1), 1);
        }
        Check.due("call 512", y.written(), 3 + 255 * 4);
    }

    // ---- promise 1

    private static void newSize() {
        Check.says("So many pages (12, if they are below that, 120, if above)");
        int[][] sizes = {{MIN, 12}, {-120, 12}, {-1, 12}, {0, 12}, {8, 12}, {11, 12}, {12, 12}, {13, 13}, {14, 14},
            {119, 119}, {120, 120}, {121, 120}, {256, 120}, {MAX, 120}};
        for (int[] size : sizes) {
            DesignPages x = new DesignPages(size[0]);
            String of = "of " + size[0];
            Check.due("the last page " + of, x.byteAt(size[1] - 1, 0), 0);
            Check.due("the page behind it " + of, x.byteAt(size[1], 0), OUTSIDE);
            Check.due("poke of the last page " + of, x.poke(size[1] - 1, 47, 1), 1);
            Check.due("poke of the page behind it " + of, x.poke(size[1], 0, 1), OUTSIDE);
            Check.due("free pages " + of, x.count(2), size[1] - 8);
        }
    }

    private static void newIsEmpty() {
        Check.says("no versions, no bytes typed");
        for (int pages : new int[] {12, 120}) {
            DesignPages x = new DesignPages(pages);
            Check.due("NEWEST", x.count(0), 0);
            Check.due("OLDEST", x.count(1), 1);
            Check.due("keys", x.count(3), 0);
            Check.due("typed", x.count(4), 0);
            Check.due("version 0", x.next(0, 0), OUTSIDE);
            Check.due("version 1", x.next(1, 0), OUTSIDE);
            Check.due("to let go", x.drop(0), OUTSIDE);
            Check.due("to remove", x.remove(0), 0);
            Check.due("not right", x.badAt(), NONE);
            Check.due("the first byte", x.type(0), 1);
            Check.due("the first version", x.put(0), 1);
            Check.due("its length", x.length(1, 0), 1);
        }
    }

    // ---- promise 2

    private static void typeCounts() {
        Check.says("A byte more is typed: how many are");
        DesignPages x = new DesignPages(12);
        for (int i = 1; i <= 32; i++) {
            Check.due("byte " + i, x.type(255), i);
            Check.due("count behind byte " + i, x.count(4), i);
        }
    }

    private static void typeOutside() {
        Check.says("OUTSIDE: it is not 0 .. 255");
        for (int b : new int[] {0, 1, 127, 128, 254, 255}) {
            DesignPages x = new DesignPages(12);
            Check.due("type(" + b + ")", x.type(b), 1);
            x.put(0);
            Check.due("it is", x.find(1, 0, 0), b);
        }
        for (int b : new int[] {-1, 256, -128, -255, -256, 511, MIN, MAX}) {
            for (int before : new int[] {0, 1, 31, 32}) {
                Unchanged.due("type(" + b + ") behind " + before, () -> typed(Stores.upTo(2), before),
                        x -> x.type(b), OUTSIDE);
            }
        }
    }

    private static void typeFull() {
        Check.says("FULL: there are 32");
        Check.due("there are 31", typed(new DesignPages(12), 31).type(9), 32);
        for (int b : new int[] {0, 9, 255}) {
            Unchanged.due("there are 32, " + b, () -> typed(new DesignPages(12), 32), x -> x.type(b), FULL);
        }
        DesignPages x = typed(new DesignPages(12), 32);
        x.type(9);
        x.put(0);
        for (int i = 0; i < 32; i++) {
            Check.due("byte " + i + " of the 32", x.find(1, 0, i), 100 + i);
        }
        Check.due("no 33rd", x.find(1, 0, 32), NONE);
        Check.due("there is none behind put()", x.type(9), 1);
    }

    // ---- promise 3

    private static void putHasTypedBytes() {
        Check.says("A key has the typed bytes (which are none then, but with a refusal) from a new version on: that");
        for (int key : new int[] {0, 31, 32, 1023}) {
            for (int length : new int[] {0, 1, 31, 32}) {
                DesignPages x = typed(Stores.upTo(2), length);
                String of = "put(" + key + ") of " + length;
                Check.due(of, x.put(key), 3);
                Check.due(of + ", typed then", x.count(4), 0);
                Check.due(of + ", length", x.length(3, key), length);
                Check.due(of + ", the version before", x.length(2, key), NONE);
                for (int i = 0; i < length; i++) {
                    Check.due(of + ", byte " + i, x.find(3, key, i), 100 + i);
                }
                Check.due(of + ", a put behind it", x.put(key), 4);
                Check.due(of + ", has no bytes", x.length(4, key), 0);
                Check.due(of + ", length in 3", x.length(3, key), length);
            }
        }
    }

    private static void putLeavesTypedBytes() {
        Check.says("which are none then, but with a refusal");
        for (int length : new int[] {0, 1, 31, 32}) {
            String of = " with " + length + " typed";
            Unchanged.due("OUTSIDE" + of, () -> typed(Stores.upTo(2), length), x -> x.put(1024), OUTSIDE);
            Unchanged.due("DAMAGED" + of, () -> typed(poked(Stores.upTo(2), 8), length), x -> x.put(7), DAMAGED,
                    x -> x.poke(8, 43, 1));
            Unchanged.due("FULL" + of, () -> typed(Stores.left(0), length), x -> x.put(0), FULL);
            DesignPages y = typed(Stores.left(1), length);
            Check.due("FULL, then drop()" + of, y.put(2), FULL);
            y.drop(1);
            Check.due("put() then" + of, y.put(2), 3);
            Check.due("put() then, length" + of, y.length(3, 2), length);
            for (int i = 0; i < length; i++) {
                Check.due("put() then, byte " + i + of, y.find(3, 2, i), 100 + i);
            }
        }
    }

    private static void putFullOfPages() {
        Check.says("FULL: there are not two free pages, or NEWEST is 1000000");
        for (int key : new int[] {0, 2, 1023}) {
            Unchanged.due("no page for " + key, () -> typed(Stores.left(0), 2), x -> x.put(key), FULL);
            Unchanged.due("one page for " + key, () -> typed(Stores.left(1), 2), x -> x.put(key), FULL);
            Check.due("two pages for " + key, Stores.left(2).put(key), 3);
            Check.due("three pages for " + key, Stores.left(3).put(key), 3);
            DesignPages x = Stores.left(3);
            x.put(key);
            Check.due("one of three is left for " + key, x.put(key), FULL);
        }
        DesignPages y = Stores.left(1);
        Check.due("drop", y.drop(1), 1);
        Check.due("one came free", y.count(2), 2);
        Check.due("that is enough", y.put(2), 3);
    }

    private static void putFullOfVersions() {
        Check.says("or NEWEST is 1000000");
        Check.due("NEWEST is 999998", Stores.openedAt(20, LAST - 2, LAST - 2).put(0), LAST - 1);
        Check.due("NEWEST is 999999", Stores.openedAt(20, LAST - 1, LAST - 1).put(0), LAST);
        Unchanged.due("NEWEST is 1000000", () -> typed(Stores.openedAt(20, LAST, LAST), 3), x -> x.put(0), FULL);
        Unchanged.due("NEWEST came to be 1000000", () -> {
            DesignPages x = Stores.openedAt(20, LAST - 1, LAST - 1);
            x.put(0);
            return typed(x, 3);
        }, x -> x.put(0), FULL);
    }

    // ---- promise 4

    private static void removeHasNothing() {
        Check.says("A key has nothing from a new version on: that");
        for (int key : new int[] {0, 31, 32, 1023}) {
            for (int length : new int[] {0, 1, 32}) {
                DesignPages x = typed(Stores.upTo(2), length);
                x.put(key);
                Stores.typeAll(x, 5, 6);
                String of = "remove(" + key + ") of " + length;
                Check.due(of, x.remove(key), 4);
                Check.due(of + ", then", x.length(4, key), NONE);
                Check.due(of + ", find", x.find(4, key, 0), NONE);
                Check.due(of + ", the version before", x.length(3, key), length);
                Check.due(of + ", another key", x.find(4, 7, 0), 2);
                Check.due(of + ", typed bytes stay", x.count(4), 2);
                Check.due(of + ", in a later version", x.put(100), 5);
                Check.due(of + ", still nothing", x.length(5, key), NONE);
            }
        }
    }

    private static void removeOfNothing() {
        Check.says("0: it has nothing in the newest one (nothing is done)");
        Unchanged.due("no versions", () -> typed(new DesignPages(12), 2), x -> x.remove(0), 0);
        Unchanged.due("no versions, the last key", () -> new DesignPages(12), x -> x.remove(1023), 0);
        Unchanged.due("no node", () -> typed(Stores.three(), 2), x -> x.remove(64), 0);
        Unchanged.due("a node without it", () -> typed(Stores.three(), 2), x -> x.remove(4), 0);
        Unchanged.due("a node without it, last place", Stores::three, x -> x.remove(31), 0);
        Supplier<DesignPages> removed = () -> {
            DesignPages x = Stores.three();
            x.remove(5);
            return typed(x, 2);
        };
        Unchanged.due("removed before", removed, x -> x.remove(5), 0);
        Unchanged.due("the power would fail with a page", () -> {
            DesignPages x = Stores.three();
            x.crash(1);
            return x;
        }, x -> x.remove(4), 0);
        Check.due("a key with no bytes has something", Stores.three().remove(1023), 4);
        Check.due("a key with bytes", Stores.three().remove(5), 4);
    }

    private static void removeRefusedBefore0() {
        Check.says("DAMAGED (these before 0)");
        for (int page : new int[] {1, 2, 3, 8, 9, 13}) {
            Unchanged.due("DAMAGED, page " + page, () -> poked(Stores.three(), page), x -> x.remove(4), DAMAGED,
                    x -> x.poke(page, 43, 1));
        }
        Unchanged.due("OUTSIDE", Stores::three, x -> x.remove(1024), OUTSIDE);
        Unchanged.due("OUTSIDE without versions", () -> new DesignPages(12), x -> x.remove(-1), OUTSIDE);
        Unchanged.due("DOWN", () -> failed(Stores.three()), x -> x.remove(4), DOWN);
        Unchanged.due("DOWN without versions", () -> Stores.down(12), x -> x.remove(4), DOWN);
        Check.due("a page that is not reached", poked(Stores.three(), 14).remove(4), 0);
    }

    private static void removeFullOfPages() {
        Check.says("FULL (behind 0): there is no free page, or NEWEST is 1000000");
        Unchanged.due("no page", () -> typed(Stores.left(0), 2), x -> x.remove(0), FULL);
        Unchanged.due("no page, 0", () -> typed(Stores.left(0), 2), x -> x.remove(2), 0);
        Unchanged.due("no page, another node, 0", () -> typed(Stores.left(0), 2), x -> x.remove(32), 0);
        Check.due("one page", Stores.left(1).remove(0), 3);
        Check.due("two pages", Stores.left(2).remove(0), 3);
        DesignPages x = Stores.left(1);
        x.remove(0);
        Check.due("the page was used", x.remove(1), FULL);
        Check.due("0 all the same", x.remove(0), 0);
    }

    private static void removeFullOfVersions() {
        Check.says("or NEWEST is 1000000");
        Supplier<DesignPages> before = () -> {
            DesignPages x = Stores.openedAt(20, LAST - 2, LAST - 2);
            x.put(0);
            return x;
        };
        Check.due("NEWEST is 999999", before.get().remove(0), LAST);
        Supplier<DesignPages> last = () -> {
            DesignPages x = before.get();
            x.put(1);
            return typed(x, 2);
        };
        Unchanged.due("NEWEST is 1000000", last, x -> x.remove(0), FULL);
        Unchanged.due("NEWEST is 1000000, 0", last, x -> x.remove(2), 0);
    }

    // ---- promise 5

    private static void dropLetsGo() {
        Check.says("Versions up to one are let go");
        for (int newest : new int[] {2, 8, 9, 12}) {
            int oldest = Math.max(1, newest - 7);
            for (int version = oldest; version < newest; version++) {
                DesignPages x = Stores.upTo(newest);
                String of = "drop(" + version + ") of " + oldest + " to " + newest;
                Check.due(of + ", how many are kept", x.drop(version), newest - version);
                Check.due(of + ", OLDEST", x.count(1), version + 1);
                Check.due(of + ", NEWEST", x.count(0), newest);
                Check.due(of + ", the last one let go", x.length(version, 7), OUTSIDE);
                Check.due(of + ", the first one kept", x.find(version + 1, 7, 0), version + 1);
                Check.due(of + ", the newest", x.find(newest, 7, 0), newest);
                Check.due(of + ", free pages", x.count(2), 32 - 2 * (newest - version));
            }
        }
    }

    private static void dropWritesTheRoot() {
        Check.says("the root of the newest one is written anew, with OLDEST one more than that");
        for (int version = 1; version <= 7; version++) {
            DesignPages x = Stores.upTo(8);
            x.drop(version);
            Image.due("drop(" + version + "), root 8", x, 0, Image.root(8, version + 1, 0, 23));
            Image.due("drop(" + version + "), root 7", x, 7, Image.root(7, 1, 0, 21));
            Check.due("drop(" + version + "), one page", x.written(), 25);
            Check.due("drop(" + version + "), reopen", x.reopen(), 8);
            Check.due("drop(" + version + "), OLDEST then", x.count(1), version + 1);
        }
        DesignPages y = Stores.upTo(8);
        y.crash(1);
        Check.due("cut", y.drop(3), CUT);
        Image.due("cut, root 8", y, 0, Image.root(8, 4, 0, 23));
        Check.due("cut, reopen", y.reopen(), 8);
        Check.due("cut, OLDEST then", y.count(1), 4);
        for (int pages = 1; pages <= 2; pages++) {
            DesignPages z = Stores.three();
            z.crash(pages);
            z.put(64);
            z.reopen();
            Check.due("behind a put() cut at " + pages, z.drop(1), 2);
            Image.due("behind a put() cut at " + pages, z, 3, Image.root(3, 2, 0, 9, 1, 11, 31, 13));
        }
        DesignPages older = poked(Stores.three(), 3);
        older.reopen();
        Check.due("an older root was opened", older.drop(1), 1);
        Image.due("an older root was opened", older, 2, Image.root(2, 2, 0, 9, 1, 11));
    }

    private static void dropOutside() {
        Check.says("OUTSIDE: it is not kept, or the newest");
        for (int version : new int[] {-1, 0, 1, 2, MIN, MAX}) {
            Unchanged.due("none are kept, " + version, () -> new DesignPages(12), x -> x.drop(version), OUTSIDE);
        }
        for (int version : new int[] {-1, 0, 1, 2, MIN, MAX}) {
            Unchanged.due("1 is kept, " + version, () -> Stores.upTo(1), x -> x.drop(version), OUTSIDE);
        }
        Supplier<DesignPages> made = () -> {
            DesignPages x = Stores.upTo(12);
            x.drop(7);
            return typed(x, 2);
        };
        for (int version : new int[] {-1, 0, 6, 7, 12, 13, 20, MIN, MAX}) {
            Unchanged.due("8 to 12 are kept, " + version, made, x -> x.drop(version), OUTSIDE);
        }
        Check.due("8 to 12 are kept, 8", made.get().drop(8), 4);
        Check.due("8 to 12 are kept, 11", made.get().drop(11), 1);
        DesignPages y = made.get();
        y.drop(11);
        Check.due("12 is kept, 11", y.drop(11), OUTSIDE);
        Check.due("12 is kept, 12", y.drop(12), OUTSIDE);
    }

    private static void dropNeedsNoPage() {
        Check.says("OUTSIDE: it is not kept, or the newest; DAMAGED; CUT.");
        Check.due("no free page", Stores.left(0).drop(1), 1);
        DesignPages x = Stores.openedAt(20, LAST - 1, LAST - 1);
        x.put(0);
        Check.due("at the last version", x.drop(LAST - 1), 1);
        Image.due("the last version's root", x, 0, Image.root(LAST, LAST, 0, 9));
        for (int page : new int[] {1, 2, 3, 8, 9, 13}) {
            Unchanged.due("DAMAGED, page " + page, () -> typed(poked(Stores.three(), page), 2), y -> y.drop(1),
                    DAMAGED, y -> y.poke(page, 43, 1));
        }
        Unchanged.due("DOWN", () -> failed(Stores.three()), y -> y.drop(1), DOWN);
    }

    // ---- promise 6

    private static void lengthOrNone() {
        Check.says("How many bytes a key has at a version; NONE: it has nothing");
        for (int length : new int[] {0, 1, 31, 32}) {
            DesignPages x = typed(new DesignPages(20), length);
            x.put(500);
            Check.due("of " + length, x.length(1, 500), length);
            Check.due("of a key below", x.length(1, 499), NONE);
            Check.due("of a key above", x.length(1, 501), NONE);
            Check.due("of a key of no node", x.length(1, 0), NONE);
            x.put(0);
            x.remove(500);
            Check.due("of " + length + ", not yet", x.length(1, 0), NONE);
            Check.due("of " + length + ", still", x.length(2, 500), length);
            Check.due("of " + length + ", not any more", x.length(3, 500), NONE);
        }
        Unchanged.due("length()", () -> typed(Stores.three(), 2), x -> x.length(3, 5), 3);
        Unchanged.due("length() of nothing", () -> typed(Stores.three(), 2), x -> x.length(3, 6), NONE);
    }

    /** Each version and key with some pages changed: page 3 the root, 9 and 11 nodes, 8 and 10 things. */
    private static void lengthOfDamaged() {
        Check.says("DAMAGED: its root, node or thing is not right (asked one after the other)");
        readsWith("nothing changed", 3, 1, NONE, NONE);
        readsWith("its thing", DAMAGED, 1, NONE, NONE, 8);
        readsWith("another thing", 3, DAMAGED, NONE, NONE, 10);
        readsWith("its node", DAMAGED, 1, DAMAGED, NONE, 9);
        readsWith("its node and thing", DAMAGED, 1, DAMAGED, NONE, 8, 9);
        readsWith("another node", 3, DAMAGED, NONE, NONE, 11);
        readsWith("its root", DAMAGED, DAMAGED, DAMAGED, DAMAGED, 3);
        readsWith("other roots", 3, 1, NONE, NONE, 1, 2);
        readsWith("pages that are not reached", 3, 1, NONE, NONE, 0, 4, 7, 14, 19);
        DesignPages x = poked(Stores.three(), 3);
        Check.due("of a version whose root is right", x.length(2, 5), 3);
        Check.due("OUTSIDE before it", x.length(3, 1024), OUTSIDE);
        Check.due("a version OUTSIDE before it", x.length(4, 5), OUTSIDE);
        Unchanged.due("DAMAGED", () -> poked(Stores.three(), 8), y -> y.length(3, 5), DAMAGED,
                y -> y.poke(8, 43, 1));
    }

    /** The lengths of keys 5, 40, 6 (of key 5's node) and 64 (of no node) at version 3; find() as they are. */
    private static void readsWith(String what, int five, int forty, int six, int noNode, int... pages) {
        DesignPages x = poked(Stores.three(), pages);
        Check.due(what + ", key 5", x.length(3, 5), five);
        Check.due(what + ", key 40", x.length(3, 40), forty);
        Check.due(what + ", key 6", x.length(3, 6), six);
        Check.due(what + ", key 64", x.length(3, 64), noNode);
        Check.due(what + ", find of key 5", x.find(3, 5, 0), five < 0 ? five : 10);
        Check.due(what + ", find of key 5 behind its bytes", x.find(3, 5, 3), five < 0 ? five : NONE);
        Check.due(what + ", find of key 40", x.find(3, 40, 0), forty);
        Check.due(what + ", find of key 6", x.find(3, 6, 0), six);
        Check.due(what + ", find of key 64", x.find(3, 64, 0), noNode);
    }

    // ---- promise 7

    private static void findOrNone() {
        Check.says("Byte i of a key at a version; NONE: there is none");
        for (int length : new int[] {0, 1, 2, 31, 32}) {
            DesignPages x = typed(new DesignPages(12), length);
            x.put(500);
            for (int i = 0; i < length; i++) {
                Check.due("byte " + i + " of " + length, x.find(1, 500, i), 100 + i);
            }
            for (int i : new int[] {-1, -4, length, length + 1, 32, 40, 44, 48, MIN, MAX}) {
                Check.due("byte " + i + " of " + length, x.find(1, 500, i), NONE);
            }
            Check.due("byte 0 of nothing", x.find(1, 501, 0), NONE);
            Check.due("byte 0 of no node", x.find(1, 0, 0), NONE);
        }
        DesignPages y = new DesignPages(12);
        Stores.put(y, 0, 0, 255);
        Check.due("byte 0 is 0", y.find(1, 0, 0), 0);
        Check.due("byte 1 is 255", y.find(1, 0, 1), 255);
        Unchanged.due("find()", () -> typed(Stores.three(), 2), x -> x.find(3, 5, 2), 30);
        Unchanged.due("find() behind the bytes", () -> typed(Stores.three(), 2), x -> x.find(3, 5, 3), NONE);
    }

    private static void findRefusals() {
        Check.says("Refusals as for length()");
        for (int i : new int[] {-1, 0, 2, 3, 32, MIN, MAX}) {
            Unchanged.due("DOWN, byte " + i, () -> failed(Stores.three()), x -> x.find(3, 5, i), DOWN);
            Unchanged.due("version 0, byte " + i, Stores::three, x -> x.find(0, 5, i), OUTSIDE);
            Unchanged.due("version 4, byte " + i, Stores::three, x -> x.find(4, 5, i), OUTSIDE);
            Unchanged.due("key -1, byte " + i, Stores::three, x -> x.find(3, -1, i), OUTSIDE);
            Unchanged.due("key 1024, byte " + i, Stores::three, x -> x.find(3, 1024, i), OUTSIDE);
            for (int page : new int[] {3, 8, 9}) {
                Unchanged.due("page " + page + " damaged, byte " + i, () -> poked(Stores.three(), page),
                        x -> x.find(3, 5, i), DAMAGED, x -> x.poke(page, 43, 1));
            }
        }
    }

    // ---- promise 8

    private static void nextOrNone() {
        Check.says("The least key, from one on, that has something at a version; NONE");
        for (int key : new int[] {0, 1, 31, 32, 63, 64, 991, 992, 1023}) {
            DesignPages x = new DesignPages(12);
            x.put(key);
            int[] begins = {0, key - 33, key - 32, key - 31, key - 1, key, key + 1, key + 31, key + 32, 1023};
            for (int from : begins) {
                if (from >= 0 && from <= 1023) {
                    Check.due(key + " from " + from, x.next(1, from), from <= key ? key : NONE);
                }
            }
            x.remove(key);
            Check.due(key + " is removed", x.next(2, 0), NONE);
            Check.due(key + " was there", x.next(1, 0), key);
        }
        DesignPages y = new DesignPages(20);
        y.put(63);
        y.put(32);
        y.put(1023);
        Check.due("the least of two", y.next(2, 0), 32);
        Check.due("the other one", y.next(2, 33), 63);
        Check.due("none behind it", y.next(2, 64), NONE);
        Check.due("one behind it in a later version", y.next(3, 64), 1023);
        Unchanged.due("next()", () -> typed(Stores.three(), 2), x -> x.next(3, 6), 40);
        Unchanged.due("next() of none", () -> typed(Stores.three(), 2), x -> x.next(2, 41), NONE);
    }

    private static void nextOfDamaged() {
        Check.says("DAMAGED: the root, or a node that is looked at before one is found, is not right"
                + " (things are not looked at)");
        nextWith("nothing", 5, 40, 1023, 1023);
        nextWith("the root", DAMAGED, DAMAGED, DAMAGED, DAMAGED, 3);
        nextWith("another root", 5, 40, 1023, 1023, 2);
        nextWith("the first node", DAMAGED, DAMAGED, 1023, 1023, 9);
        nextWith("the second node", 5, DAMAGED, DAMAGED, 1023, 11);
        nextWith("the last node", 5, 40, DAMAGED, DAMAGED, 13);
        nextWith("all things", 5, 40, 1023, 1023, 8, 10, 12);
        DesignPages x = poked(Stores.three(), 3);
        Check.due("OUTSIDE before it", x.next(3, 1024), OUTSIDE);
        Check.due("a version OUTSIDE before it", x.next(4, 0), OUTSIDE);
        Check.due("of a version whose root is right", x.next(2, 0), 5);
        DesignPages y = poked(Stores.three(), 13);
        Check.due("a node of a later version alone", y.next(2, 41), NONE);
        Unchanged.due("DAMAGED", () -> poked(Stores.three(), 9), z -> z.next(3, 0), DAMAGED,
                z -> z.poke(9, 43, 1));
    }

    /** At version 3, from keys 0, 31 (of the first node, behind 5), 63 (of the second) and 64 (of none). */
    private static void nextWith(String what, int from0, int from31, int from63, int from64, int... pages) {
        DesignPages x = poked(Stores.three(), pages);
        Check.due(what + " is changed, from 0", x.next(3, 0), from0);
        Check.due(what + " is changed, from 31", x.next(3, 31), from31);
        Check.due(what + " is changed, from 63", x.next(3, 63), from63);
        Check.due(what + " is changed, from 64", x.next(3, 64), from64);
        Check.due(what + " is changed, from 1023", x.next(3, 1023), from64);
    }

    // ---- promise 9

    private static void crashAtOnceOrNever() {
        Check.says("The power fails when so many more pages were written (0: at once); never with NONE: 1");
        DesignPages x = typed(Stores.upTo(2), 2);
        Check.due("0", x.crash(0), 1);
        Check.due("0: at once", x.isDown(), true);
        Check.due("0: nothing is written", x.written(), 6);
        Check.due("0: reopen", x.reopen(), 2);
        Check.due("0: typed", x.count(4), 0);
        DesignPages y = typed(Stores.upTo(2), 2);
        Check.due("1", y.crash(1), 1);
        Check.due("1: not at once", y.isDown(), false);
        Check.due("1: bytes stay typed", y.count(4), 2);
        Check.due("1: at the first page", y.put(7), CUT);
        Check.due("1: one page", y.written(), 7);
        DesignPages z = Stores.upTo(2);
        z.crash(2);
        Check.due("NONE", z.crash(NONE), 1);
        for (int v = 3; v <= 20; v++) {
            Check.due("NONE: never", z.put(7), v);
        }
        DesignPages more = Stores.upTo(2);
        more.crash(4);
        more.put(7);
        Check.due("so many more, from then on", more.crash(3), 1);
        Check.due("the later one counts", more.put(7), CUT);
        Check.due("three more", more.written(), 12);
        DesignPages most = new DesignPages(40);
        most.crash(1000);
        for (int v = 1; v <= 333; v++) {
            Check.due("1000: up to page 999", most.put(7), v);
        }
        Check.due("1000: at page 1000", most.put(7), CUT);
        Check.due("1000 pages", most.written(), 1000);
        DesignPages most1 = new DesignPages(40);
        most1.crash(999);
        for (int v = 1; v <= 332; v++) {
            Check.due("999: up to page 996", most1.put(7), v);
        }
        Check.due("999: at page 999", most1.put(7), CUT);
        Check.due("999: the root was the last page", most1.reopen(), 333);
    }

    private static void crashOutside() {
        Check.says("OUTSIDE: it is not NONE .. 1000");
        for (int pages : new int[] {NONE, 0, 1, 999, 1000}) {
            Check.due("crash(" + pages + ")", Stores.upTo(2).crash(pages), 1);
        }
        for (int told : new int[] {NONE, 1, 2, 7}) {
            Supplier<DesignPages> made = () -> {
                DesignPages x = typed(Stores.upTo(2), 2);
                x.crash(told);
                return x;
            };
            for (int pages : new int[] {-2, 1001, -1000, 1256, MIN, MAX}) {
                Unchanged.due("crash(" + pages + ") behind " + told, made, x -> x.crash(pages), OUTSIDE);
            }
        }
        for (int pages : new int[] {-2, NONE, 0, 1, 1000, 1001}) {
            Unchanged.due("crash(" + pages + ") when down", () -> failed(Stores.upTo(2)), x -> x.crash(pages), DOWN);
        }
    }

    // ---- promise 10

    private static void reopenDownOrNot() {
        Check.says("TO OPEN, down or not; no bytes are typed, no failure is told then: NEWEST");
        for (int typed : new int[] {0, 1, 32}) {
            for (boolean down : new boolean[] {false, true}) {
                DesignPages x = typed(Stores.upTo(9), typed);
                x.crash(down ? 0 : 1);
                String of = typed + " typed, " + (down ? "down" : "not down");
                Check.due(of + ", NEWEST", x.reopen(), 9);
                Check.due(of + ", is down", x.isDown(), false);
                Check.due(of + ", typed", x.count(4), 0);
                Check.due(of + ", OLDEST", x.count(1), 2);
                Check.due(of + ", no failure is told", x.put(0), 10);
                Check.due(of + ", no bytes are put", x.length(10, 0), 0);
                Check.due(of + ", written since the beginning", x.written(), 30);
            }
        }
        Check.due("of nothing", new DesignPages(12).reopen(), 0);
        DesignPages y = Stores.down(12);
        Check.due("of nothing when down", y.reopen(), 0);
        Check.due("the first version", y.put(0), 1);
        Check.due("again", y.reopen(), 1);
        Check.due("and again", y.reopen(), 1);
    }

    // ---- promise 11

    private static void pokeChanges() {
        Check.says("A byte of a page is changed by ^ with a mask: what it is then. (Also when it is DOWN.)");
        for (boolean down : new boolean[] {false, true}) {
            String when = down ? " when down" : "";
            int[][] edges = {{0, 0}, {0, 47}, {7, 0}, {8, 47}, {11, 0}, {11, 47}};
            for (int[] e : edges) {
                DesignPages x = new DesignPages(12);
                if (down) {
                    x.crash(0);
                }
                Check.due("by 1" + when, x.poke(e[0], e[1], 1), 1);
                Check.due("by 255" + when, x.poke(e[0], e[1], 255), 254);
                Check.due("by 254" + when, x.poke(e[0], e[1], 254), 0);
                Check.due("by 128" + when, x.poke(e[0], e[1], 128), 128);
                Check.due("it is so" + when, x.byteAt(e[0], e[1]), 128);
                Check.due("the byte before is not" + when, Math.max(0, x.byteAt(e[0], e[1] - 1)), 0);
                Check.due("the byte behind is not" + when, Math.max(0, x.byteAt(e[0], e[1] + 1)), 0);
                Check.due("no page is written" + when, x.written(), 0);
                Check.due("it is as down as before" + when, x.isDown(), down);
            }
        }
        DesignPages y = Stores.upTo(2);
        y.crash(1);
        y.poke(8, 0, 1);
        y.poke(8, 0, 1);
        Check.due("no page of those that crash() told", y.isDown(), false);
        Check.due("the next page is", y.put(0), CUT);
    }

    private static void pokeOutside() {
        Check.says("OUTSIDE: there is no such page or byte, or the mask is not 1 .. 255");
        for (int pages : new int[] {12, 120}) {
            int[][] wrong = {{-1, 0, 1}, {pages, 0, 1}, {MIN, 0, 1}, {MAX, 0, 1}, {0, -1, 1}, {0, 48, 1},
                {1, -48, 1}, {0, MIN, 1}, {0, MAX, 1}, {pages - 1, 48, 1}, {8, 3, 0}, {8, 3, 256}, {8, 3, -1},
                {8, 3, -255}, {8, 3, 257}, {8, 3, MIN}, {8, 3, MAX}, {pages, 48, 0}};
            for (int[] w : wrong) {
                String call = "poke(" + w[0] + ", " + w[1] + ", " + w[2] + ") of " + pages;
                Supplier<DesignPages> made = () -> typed(threeOn(pages), 2);
                Unchanged.due(call, made, x -> x.poke(w[0], w[1], w[2]), OUTSIDE);
                Unchanged.due(call + " when down", () -> failed(made.get()), x -> x.poke(w[0], w[1], w[2]), OUTSIDE);
            }
            Check.due("the first byte", new DesignPages(pages).poke(0, 0, 1), 1);
            Check.due("the last byte", new DesignPages(pages).poke(pages - 1, 47, 255), 255);
        }
    }

    private static DesignPages threeOn(int pages) {
        DesignPages x = new DesignPages(pages);
        Stores.put(x, 0, 1, 2, 3);
        Stores.put(x, 40, 4);
        return x;
    }

    // ---- promise 12

    private static void byteAtOutside() {
        Check.says("A byte of a page. (Also when it is DOWN.) OUTSIDE.");
        for (int pages : new int[] {12, 120}) {
            int[][] wrong = {{-1, 0}, {-1, 48}, {pages, 0}, {pages, -1}, {MIN, 0}, {MAX, 0}, {0, -1}, {0, 48},
                {1, -48}, {pages - 1, 48}, {0, MIN}, {0, MAX}, {MAX, MAX}, {MIN, MIN}, {89478485, 16}};
            for (int[] w : wrong) {
                String call = "byteAt(" + w[0] + ", " + w[1] + ") of " + pages;
                Unchanged.due(call, () -> threeOn(pages), x -> x.byteAt(w[0], w[1]), OUTSIDE);
                Unchanged.due(call + " when down", () -> failed(threeOn(pages)), x -> x.byteAt(w[0], w[1]), OUTSIDE);
            }
            DesignPages x = threeOn(pages);
            x.poke(0, 0, 9);
            x.poke(pages - 1, 47, 8 ^ x.byteAt(pages - 1, 47));
            for (int round = 0; round < 2; round++) {
                String when = round == 0 ? "" : " when down";
                Check.due("the first byte" + when, x.byteAt(0, 0), 9);
                Check.due("the last byte" + when, x.byteAt(pages - 1, 47), 8);
                Check.due("a typed byte" + when, x.byteAt(8, 4), 1);
                Check.due("a kind" + when, x.byteAt(2, 0), 1);
                x.crash(0);
            }
        }
    }

    // ---- promise 13

    private static void badAtLeast() {
        Check.says("The least reached page that is not right; NONE. DOWN.");
        int[] reached = {1, 2, 3, 8, 9, 10, 11, 12, 13};
        Check.due("none", Stores.three().badAt(), NONE);
        Check.due("none without versions", new DesignPages(12).badAt(), NONE);
        for (int page : reached) {
            Check.due("page " + page, poked(Stores.three(), page).badAt(), page);
        }
        int[][] two = {{1, 2, 1}, {3, 2, 2}, {1, 8, 1}, {8, 10, 8}, {12, 8, 8}, {9, 13, 9}, {11, 12, 11}, {12, 13, 13}};
        for (int[] t : two) {
            Check.due("pages " + t[0] + " and " + t[1], poked(Stores.three(), t[0], t[1]).badAt(), t[2]);
        }
        for (int page : new int[] {0, 4, 7, 14, 19}) {
            Check.due("page " + page + " is not reached", poked(Stores.three(), page).badAt(), NONE);
        }
        Check.due("page 0 is reached", poked(Stores.upTo(8), 0).badAt(), 0);
        DesignPages last = Stores.left(0);
        last.poke(11, 43, 1);
        Check.due("the last page", last.badAt(), 11);
        Unchanged.due("badAt()", () -> typed(poked(Stores.three(), 12), 2), DesignPages::badAt, 12,
                x -> x.poke(12, 43, 1));
        Unchanged.due("DOWN", () -> failed(Stores.three()), DesignPages::badAt, DOWN);
        Unchanged.due("DOWN and damaged", () -> failed(poked(Stores.three(), 12)), DesignPages::badAt, DOWN);
    }

    // ---- promise 14

    private static void countOutside() {
        Check.says("How many: what = 0 NEWEST, 1 OLDEST, 2 free pages");
        int[] due = {12, 8, 30 - 8, 1, 3};
        Supplier<DesignPages> made = () -> {
            DesignPages x = Stores.upTo(12);
            x.drop(7);
            return typed(x, 3);
        };
        for (int what = 0; what <= 4; what++) {
            int counted = what;
            Unchanged.due("count(" + what + ")", made, x -> x.count(counted), due[what]);
            Unchanged.due("DOWN, count(" + what + ")", () -> failed(made.get()), x -> x.count(counted), DOWN);
        }
        for (int what : new int[] {-1, 5, 6, 256, MIN, MAX}) {
            Unchanged.due("count(" + what + ")", made, x -> x.count(what), OUTSIDE);
            Unchanged.due("DOWN, count(" + what + ")", () -> failed(made.get()), x -> x.count(what), DOWN);
        }
        for (int length : new int[] {0, 1, 31, 32}) {
            Check.due("bytes typed", typed(new DesignPages(12), length).count(4), length);
        }
        Check.due("no free page", Stores.left(0).count(2), 0);
        Check.due("one free page", Stores.left(1).count(2), 1);
        Check.due("all of 120", new DesignPages(120).count(2), 112);
    }

    private static void countOfKeys() {
        Check.says("3 keys that have something in the newest version (of nodes that are right; 0 if its root is not)");
        Check.due("no versions", new DesignPages(12).count(3), 0);
        Check.due("three", Stores.three().count(3), 3);
        Check.due("a node is not right", poked(Stores.three(), 9).count(3), 2);
        Check.due("two nodes are not", poked(Stores.three(), 9, 13).count(3), 1);
        Check.due("no node is", poked(Stores.three(), 9, 11, 13).count(3), 0);
        Check.due("things are not", poked(Stores.three(), 8, 10, 12).count(3), 3);
        Check.due("its root is not", poked(Stores.three(), 3).count(3), 0);
        Check.due("other roots are not", poked(Stores.three(), 1, 2).count(3), 3);
        Check.due("a node of an older version alone is not", poked(Stores.upTo(2), 9).count(3), 1);
        DesignPages x = Stores.three();
        x.remove(1023);
        Check.due("one is removed", x.count(3), 2);
        x.remove(5);
        x.remove(40);
        Check.due("all are removed", x.count(3), 0);
        DesignPages y = new DesignPages(12);
        Image.force(y, 0, Image.root(8, 8, 0, 9));
        Image.force(y, 9, Image.node(0, 0, 8, 31, 8));
        Check.due("no versions, whatever page 0 holds", y.count(3), 0);
        y.reopen();
        Check.due("the first and the last place", y.count(3), 2);
        DesignPages most = new DesignPages(12);
        int[] node = Image.node(0);
        int[] root = Image.root(8, 8);
        for (int i = 0; i < 32; i++) {
            node[2 + i] = 8;
            root[9 + i] = 9;
        }
        Image.force(most, 9, Image.sealed(node));
        Image.force(most, 0, Image.sealed(root));
        most.reopen();
        Check.due("all keys", most.count(3), 1024);
    }

    // ---- promise 15

    private static void writtenSinceTheBeginning() {
        Check.says("How many pages were written since the beginning; also when it is DOWN");
        Unchanged.due("none", () -> new DesignPages(12), DesignPages::written, 0);
        Unchanged.due("put()", Stores::three, DesignPages::written, 9);
        Unchanged.due("when down", () -> failed(Stores.three()), DesignPages::written, 9);
        for (int told = 1; told <= 3; told++) {
            DesignPages x = Stores.three();
            x.crash(told);
            x.put(0);
            Check.due("when put() was cut", x.written(), 9 + told);
            x.put(0);
            Check.due("a call when down", x.written(), 9 + told);
            x.reopen();
            Check.due("reopen() begins nothing", x.written(), 9 + told);
            x.remove(5);
            Check.due("remove()", x.written(), 11 + told);
            x.drop(1);
            Check.due("drop()", x.written(), 12 + told);
        }
        DesignPages y = Stores.left(0);
        y.put(0);
        y.remove(0);
        y.remove(5);
        y.drop(2);
        y.put(-1);
        Check.due("refusals", y.written(), 6);
    }

    // ---- promise 16

    private static void isDown() {
        Check.says("Whether it is DOWN");
        for (int told : new int[] {NONE, 0, 1, 3, 4}) {
            DesignPages x = new DesignPages(12);
            x.crash(told);
            Check.due("told " + told + ", before", x.isDown(), told == 0);
            x.put(0);
            Check.due("told " + told + ", behind put()", x.isDown(), told >= 0 && told <= 3);
            x.poke(0, 0, 1);
            Check.due("told " + told + ", behind poke()", x.isDown(), told >= 0 && told <= 3);
            x.reopen();
            Check.due("told " + told + ", behind reopen()", x.isDown(), false);
        }
        Check.due("a new one", new DesignPages(12).isDown(), false);
        Unchanged.due("isDown()", Stores::three, x -> x.isDown() ? 1 : 0, 0);
        Unchanged.due("isDown() when down", () -> failed(Stores.three()), x -> x.isDown() ? 1 : 0, 1);
    }
}
