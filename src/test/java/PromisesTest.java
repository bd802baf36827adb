/** Each promise by its ordinary answers, its edges and its wrong inputs. */
public final class PromisesTest {
    private static final int NONE = DesignPages.NONE;
    private static final int OUTSIDE = DesignPages.OUTSIDE;
    private static final int CUT = DesignPages.CUT;
    private static final int DAMAGED = DesignPages.DAMAGED;
    private static final int DOWN = DesignPages.DOWN;
    private static final int FULL = DesignPages.FULL;
    private static final int MIN = Integer.MIN_VALUE;
    private static final int MAX = Integer.MAX_VALUE;
    private static final int LAST = Stores.LAST_VERSION;

    public static void main(String[] args) {
        newObject();
        everyByteIsZero();
        type();
        putWritesPages();
        putUsesTypedBytes();
        putRefusals();
        putAtTheLastVersion();
        putWithoutPages();
        putIsCut();
        putMovesOldest();
        putUsesFreedPages();
        putAfterChangedBytes();
        remove();
        removeRefusals();
        removeWithoutPages();
        removeAtTheLastVersion();
        removeIsCut();
        removeAfterChangedBytes();
        drop();
        dropRefusals();
        dropIsCut();
        dropAfterChangedBytes();
        length();
        lengthOfDamaged();
        find();
        next();
        nextOfDamaged();
        crash();
        reopen();
        reopenLooksAtRoots();
        poke();
        byteAt();
        badAt();
        badAtAsKind();
        bytesBehindThePlaces();
        count();
        countOfDamaged();
        written();
        isDown();
        rightAsKind();
        Check.end();
    }

    // ---- helpers

    private static void due(int promise, String what, long got, long want) {
        Check.due("promise " + promise + ": " + what, got, want);
    }

    private static DesignPages new32() {
        DesignPages x = new DesignPages(12);
        x.put(64);
        return x;
    }

    // ---- promise 1

    private static void newObject() {
        int[][] sizes = {{MIN, 12}, {-1, 12}, {0, 12}, {11, 12}, {12, 12}, {13, 13}, {60, 60}, {119, 119},
            {120, 120}, {121, 120}, {1000, 120}, {MAX, 120}};
        for (int[] size : sizes) {
            DesignPages x = new DesignPages(size[0]);
            String made = "new of " + size[0] + ", ";
            due(1, made + "free", x.count(2), size[1] - 8);
            due(1, made + "last byte", x.byteAt(size[1] - 1, 47), 0);
            due(1, made + "page behind", x.byteAt(size[1], 0), OUTSIDE);
            due(1, made + "newest", x.count(0), 0);
            due(1, made + "oldest", x.count(1), 1);
            due(1, made + "keys", x.count(3), 0);
            due(1, made + "typed", x.count(4), 0);
            due(1, made + "badAt", x.badAt(), NONE);
            due(1, made + "written", x.written(), 0);
            due(1, made + "down", x.isDown() ? 1 : 0, 0);
            due(1, made + "version 0", x.length(0, 0), OUTSIDE);
            due(1, made + "version 1", x.length(1, 0), OUTSIDE);
            due(1, made + "first put", x.put(3), 1);
        }
        DesignPages one = new DesignPages(12);
        DesignPages other = new DesignPages(12);
        Stores.put(one, 1, 1);
        due(1, "objects are apart", other.count(0) + other.written() + other.byteAt(8, 0), 0);
    }

    private static void everyByteIsZero() {
        for (int page = 0; page < 120; page++) {
            Image.due("promise 1: new", new DesignPages(120), page, Image.empty());
        }
    }

    // ---- promise 2

    private static void type() {
        DesignPages x = new DesignPages(12);
        due(2, "-1", x.type(-1), OUTSIDE);
        due(2, "256", x.type(256), OUTSIDE);
        due(2, "MIN", x.type(MIN), OUTSIDE);
        due(2, "MAX", x.type(MAX), OUTSIDE);
        due(2, "refused ones are not typed", x.count(4), 0);
        due(2, "0", x.type(0), 1);
        due(2, "255", x.type(255), 2);
        for (int i = 3; i <= 32; i++) {
            due(2, "byte " + i, x.type(i), i);
        }
        due(2, "byte 33", x.type(7), FULL);
        due(2, "OUTSIDE before FULL", x.type(256), OUTSIDE);
        due(2, "still 32", x.count(4), 32);
        x.put(0);
        due(2, "length", x.length(1, 0), 32);
        due(2, "byte 0", x.find(1, 0, 0), 0);
        due(2, "byte 1", x.find(1, 0, 1), 255);
        due(2, "byte 31", x.find(1, 0, 31), 32);
        due(2, "anew", x.type(9), 1);
        x.crash(0);
        due(2, "down", x.type(1), DOWN);
        due(2, "DOWN before OUTSIDE", x.type(-1), DOWN);
        x.reopen();
        due(2, "gone with the power", x.count(4), 0);
    }

    // ---- promise 3

    private static void putWritesPages() {
        DesignPages x = new DesignPages(20);
        due(3, "first", Stores.put(x, 770, 7, 0, 255), 1);
        Image.due("promise 3: thing", x, 8, Image.thing(770, 7, 0, 255));
        Image.due("promise 3: node", x, 9, Image.node(24, 2, 8));
        Image.due("promise 3: root", x, 1, Image.root(1, 1, 24, 9));
        due(3, "second", Stores.put(x, 799, 1), 2);
        Image.due("promise 3: 2nd thing", x, 10, Image.thing(799, 1));
        Image.due("promise 3: 2nd node has both", x, 11, Image.node(24, 2, 8, 31, 10));
        Image.due("promise 3: 2nd root", x, 2, Image.root(2, 1, 24, 11));
        due(3, "third", Stores.put(x, 0), 3);
        Image.due("promise 3: 3rd root", x, 3, Image.root(3, 1, 24, 11, 0, 13));
        due(3, "written", x.written(), 9);
        due(3, "newest", x.count(0), 3);
        due(3, "oldest", x.count(1), 1);

        DesignPages y = new DesignPages(20);
        Stores.put(y, 1023, 4);
        Stores.put(y, 1023, 5, 6);
        Image.due("promise 3: thing anew", y, 10, Image.thing(1023, 5, 6));
        Image.due("promise 3: node anew", y, 11, Image.node(31, 31, 10));
        Image.due("promise 3: old thing stays", y, 8, Image.thing(1023, 4));
        Image.due("promise 3: old node stays", y, 9, Image.node(31, 31, 8));
        Image.due("promise 3: old root stays", y, 1, Image.root(1, 1, 31, 9));
        due(3, "old version", y.find(1, 1023, 0), 4);
        due(3, "new version", y.find(2, 1023, 1), 6);
    }

    private static void putUsesTypedBytes() {
        DesignPages x = new DesignPages(40);
        Stores.typeAll(x, 1, 2, 3);
        due(3, "wrong key", x.put(1024), OUTSIDE);
        due(3, "a refusal leaves the bytes", x.count(4), 3);
        due(3, "put", x.put(5), 1);
        due(3, "none are typed then", x.count(4), 0);
        due(3, "put of none", x.put(6), 2);
        due(3, "has 3", x.length(2, 5), 3);
        due(3, "has 0", x.length(2, 6), 0);
        due(3, "none is not nothing", x.next(2, 6), 6);
    }

    private static void putRefusals() {
        DesignPages x = new DesignPages(12);
        int[] wrong = {-1, 1024, MIN, MAX};
        for (int key : wrong) {
            due(3, "key " + key, x.put(key), OUTSIDE);
        }
        due(3, "nothing was written", x.written(), 0);
        Stores.put(x, 0, 1);
        Stores.put(x, 1023, 2);
        due(3, "OUTSIDE before FULL", x.put(1024), OUTSIDE);
        due(3, "full", x.put(1), FULL);
        x.type(9);
        x.poke(8, 20, 1);
        due(3, "DAMAGED before FULL", x.put(1), DAMAGED);
        due(3, "OUTSIDE before DAMAGED", x.put(-1), OUTSIDE);
        due(3, "bytes stay", x.count(4), 1);
        due(3, "versions stay", x.count(0), 2);
        due(3, "no page was written", x.written(), 6);
        x.crash(0);
        due(3, "DOWN before OUTSIDE", x.put(-1), DOWN);
        due(3, "DOWN before DAMAGED", x.put(1), DOWN);

        DesignPages y = Stores.three();
        y.poke(8, 47, 128);
        due(3, "any kept version's thing", y.put(1), DAMAGED);
        y.poke(8, 47, 128);
        y.poke(9, 1, 1);
        due(3, "any kept version's node", y.put(1), DAMAGED);
        y.poke(9, 1, 1);
        y.poke(1, 43, 1);
        due(3, "any kept version's root", y.put(1), DAMAGED);
        y.poke(1, 43, 1);
        y.poke(0, 0, 1);
        y.poke(14, 0, 2);
        due(3, "pages that are not reached do not matter", y.put(1), 4);
        Image.due("promise 3: nor what they hold", y, 14, Image.thing(1));
    }

    private static void putAtTheLastVersion() {
        DesignPages x = Stores.openedAt(20, LAST - 1, LAST - 1);
        due(3, "version 1000000", x.put(1), LAST);
        Image.due("promise 3: last root", x, 0, Image.root(LAST, LAST - 1, 0, 9));
        x.type(1);
        due(3, "version 1000001", x.put(1), FULL);
        due(3, "bytes stay", x.count(4), 1);
        due(3, "newest stays", x.count(0), LAST);
        due(3, "written", x.written(), 3);
    }

    private static void putWithoutPages() {
        DesignPages x = new DesignPages(13);
        Stores.put(x, 0, 1);
        Stores.put(x, 1, 2);
        due(3, "one is free", x.count(2), 1);
        x.type(3);
        due(3, "one is not enough", x.put(2), FULL);
        due(3, "bytes stay", x.count(4), 1);
        due(3, "newest stays", x.count(0), 2);
        due(3, "no page was written", x.written(), 6);
        Image.due("promise 3: FULL writes nothing", x, 12, Image.empty());
        due(3, "drop", x.drop(1), 1);
        due(3, "node 9 came free", x.count(2), 2);
        due(3, "two are enough", x.put(2), 3);
        Image.due("promise 3: thing on the least free", x, 9, Image.thing(2, 3));
        Image.due("promise 3: node on the next free", x, 12, Image.node(0, 0, 8, 1, 10, 2, 9));
        due(3, "none is free", x.count(2), 0);
        due(3, "none is not enough", x.put(2), FULL);
    }

    private static void putIsCut() {
        for (int pages = 1; pages <= 3; pages++) {
            DesignPages x = new DesignPages(20);
            Stores.put(x, 33, 1);
            x.crash(pages);
            String cut = "cut at " + pages + ", ";
            due(3, cut + "put", Stores.put(x, 34, 2), CUT);
            due(3, cut + "written", x.written(), 3 + pages);
            due(3, cut + "thing", x.byteAt(10, 0), 3);
            due(3, cut + "node", x.byteAt(11, 0), pages >= 2 ? 2 : 0);
            due(3, cut + "root", x.byteAt(2, 0), pages >= 3 ? 1 : 0);
            due(3, cut + "down", x.isDown() ? 1 : 0, 1);
            due(3, cut + "reopen", x.reopen(), pages >= 3 ? 2 : 1);
            due(3, cut + "typed", x.count(4), 0);
            due(3, cut + "oldest", x.count(1), 1);
            due(3, cut + "before is whole", x.find(1, 33, 0), 1);
            due(3, cut + "new", x.length(2, 34), pages >= 3 ? 1 : OUTSIDE);
            due(3, cut + "free", x.count(2), pages >= 3 ? 8 : 10);
            due(3, cut + "badAt", x.badAt(), NONE);
            due(3, cut + "put anew", Stores.put(x, 34, 9, 9), pages >= 3 ? 3 : 2);
        }
        DesignPages y = new DesignPages(20);
        y.crash(4);
        due(3, "first 3 pages", y.put(0), 1);
        due(3, "the 4th page", y.put(0), CUT);
    }

    private static void putMovesOldest() {
        DesignPages x = new DesignPages(60);
        for (int v = 1; v <= 20; v++) {
            due(3, "version", Stores.put(x, v, v), v);
            due(3, "oldest of " + v, x.count(1), Math.max(1, v - 7));
        }
        due(3, "12 is not kept", x.length(12, 1), OUTSIDE);
        due(3, "13 is kept", x.length(13, 13), 1);
        due(3, "13 has no 14", x.length(13, 14), NONE);
        due(3, "root of 20", x.byteAt(4, 4), 20);
        due(3, "its oldest", x.byteAt(4, 8), 13);
        due(3, "root of 13", x.byteAt(5, 4), 13);
        due(3, "drop", x.drop(18), 2);
        due(3, "put", x.put(21), 21);
        due(3, "the greater oldest stays", x.count(1), 19);

        DesignPages y = new DesignPages(60);
        for (int v = 1; v <= 8; v++) {
            Stores.put(y, v, v);
        }
        y.crash(2);
        due(3, "cut before root 9", y.put(9), CUT);
        due(3, "8 are there", y.reopen(), 8);
        due(3, "1 is whole", y.find(1, 1, 0), 1);
        y.crash(3);
        due(3, "cut behind root 9", y.put(9), CUT);
        due(3, "9 is there", y.reopen(), 9);
        due(3, "1 is let go", y.length(1, 1), OUTSIDE);
        due(3, "2 is oldest", y.count(1), 2);
        due(3, "2 is whole", y.find(2, 2, 0), 2);
    }

    private static void putUsesFreedPages() {
        DesignPages x = new DesignPages(20);
        Stores.put(x, 0, 1, 2, 3, 4, 5, 6, 7, 8);
        Stores.put(x, 0, 9);
        x.drop(1);
        due(3, "8 and 9 are free", x.count(2), 10);
        due(3, "put", Stores.put(x, 64, 5), 3);
        Image.due("promise 3: thing on a used page", x, 8, Image.thing(64, 5));
        Image.due("promise 3: node on a used page", x, 9, Image.node(2, 0, 8));

        // A root's page held an older root, one that told more nodes than the new one.
        DesignPages y = Stores.openedAt(20, 7, 7);
        Image.force(y, 0, Image.root(800, 799, 3, 12, 4, 13));
        due(3, "put", y.put(1), 8);
        Image.due("promise 3: root on a used page", y, 0, Image.root(8, 7, 0, 9));

        // The first change has no root to copy: what stands on page 1 must not come through.
        DesignPages z = new DesignPages(20);
        z.poke(1, 30, 8);
        z.poke(1, 42, 8);
        due(3, "put", z.put(1), 1);
        Image.due("promise 3: first root", z, 1, Image.root(1, 1, 0, 9));
    }

    private static void putAfterChangedBytes() {
        for (int number : new int[] {0, 1, 3, 31, 32, 255}) {
            DesignPages x = Stores.changedButRight(number);
            due(3, "nothing is bad, number " + number, x.badAt(), NONE);
            due(3, "the same key, number " + number, Stores.put(x, 77, 9), 2);
            Image.due("promise 3: thing, number " + number, x, 10, Image.thing(77, 9));
            Image.due("promise 3: node, number " + number, x, 11, Image.node(2, 13, 10));
            Image.due("promise 3: root, number " + number, x, 2, Image.root(2, 1, 2, 11));
            due(3, "what was there stays, number " + number, x.byteAt(9, 1), number);

            DesignPages y = Stores.changedButRight(number);
            due(3, "another key of the node, number " + number, Stores.put(y, 95), 2);
            Image.due("promise 3: node of two, number " + number, y, 11, Image.node(2, 13, 8, 31, 10));
            Image.due("promise 3: its root, number " + number, y, 2, Image.root(2, 1, 2, 11));

            DesignPages z = Stores.changedButRight(number);
            due(3, "a key of another node, number " + number, Stores.put(z, 1000), 2);
            Image.due("promise 3: node of its own, number " + number, z, 11, Image.node(31, 8, 10));
            Image.due("promise 3: root of two, number " + number, z, 2, Image.root(2, 1, 2, 9, 31, 11));
        }
    }

    // ---- promise 4

    private static void remove() {
        DesignPages x = new DesignPages(30);
        due(4, "without versions", x.remove(5), 0);
        due(4, "without versions, last key", x.remove(1023), 0);
        Stores.put(x, 5, 1);
        Stores.put(x, 6);
        x.type(7);
        due(4, "another thing of the node", x.remove(7), 0);
        due(4, "another node", x.remove(37), 0);
        due(4, "nothing was done", x.count(0) * 100 + x.written(), 206);
        due(4, "ordinary", x.remove(5), 3);
        Image.due("promise 4: node", x, 12, Image.node(0, 6, 10));
        Image.due("promise 4: root", x, 3, Image.root(3, 1, 0, 12));
        due(4, "only two pages", x.written(), 8);
        due(4, "typed bytes stay", x.count(4), 1);
        due(4, "has nothing", x.length(3, 5), NONE);
        due(4, "had something", x.length(2, 5), 1);
        due(4, "anew", x.remove(5), 0);
        due(4, "a key with 0 bytes", x.remove(6), 4);
        Image.due("promise 4: empty node", x, 13, Image.node(0));
        Image.due("promise 4: it is told", x, 4, Image.root(4, 1, 0, 13));
        due(4, "no keys", x.count(3), 0);
        due(4, "removed", x.remove(6), 0);
        due(4, "put anew", x.put(6), 5);
        due(4, "removed in an old version only", x.length(4, 6), NONE);

        DesignPages y = new DesignPages(30);
        for (int v = 1; v <= 7; v++) {
            Stores.put(y, v);
        }
        due(4, "version 8", y.remove(1), 8);
        due(4, "oldest 1", y.count(1), 1);
        due(4, "version 9", y.remove(2), 9);
        due(4, "oldest 2", y.count(1), 2);
    }

    private static void removeRefusals() {
        DesignPages x = Stores.three();
        int[] wrong = {-1, 1024, MIN, MAX};
        for (int key : wrong) {
            due(4, "key " + key, x.remove(key), OUTSIDE);
        }
        x.poke(13, 30, 64);
        due(4, "damaged", x.remove(5), DAMAGED);
        due(4, "DAMAGED before 0", x.remove(6), DAMAGED);
        due(4, "OUTSIDE before DAMAGED", x.remove(1024), OUTSIDE);
        due(4, "nothing was done", x.count(0) * 100 + x.written(), 309);
        x.crash(0);
        due(4, "DOWN before OUTSIDE", x.remove(1024), DOWN);
        due(4, "DOWN", x.remove(5), DOWN);
        due(4, "DOWN before 0", x.remove(6), DOWN);
        due(4, "DOWN without versions", Stores.down(12).remove(6), DOWN);
    }

    private static void removeWithoutPages() {
        DesignPages x = new DesignPages(13);
        Stores.put(x, 0, 1);
        Stores.put(x, 1, 2);
        due(4, "one is free and enough", x.remove(0), 3);
        Image.due("promise 4: on the free page", x, 12, Image.node(0, 1, 10));
        due(4, "none is free", x.count(2), 0);
        due(4, "full", x.remove(1), FULL);
        due(4, "0 before FULL", x.remove(0), 0);
        due(4, "newest stays", x.count(0), 3);
        due(4, "written", x.written(), 8);
        x.poke(8, 5, 1);
        due(4, "DAMAGED before FULL", x.remove(1), DAMAGED);
    }

    private static void removeAtTheLastVersion() {
        DesignPages x = Stores.openedAt(20, LAST - 2, LAST - 2);
        Stores.put(x, 1, 5);
        due(4, "version 1000000", x.remove(1), LAST);
        due(4, "0 before FULL", x.remove(1), 0);
        DesignPages y = Stores.openedAt(20, LAST - 1, LAST - 1);
        due(4, "put", y.put(1), LAST);
        due(4, "version 1000001", y.remove(1), FULL);
        due(4, "newest stays", y.count(0), LAST);
        due(4, "written", y.written(), 3);
    }

    private static void removeIsCut() {
        for (int pages = 1; pages <= 2; pages++) {
            DesignPages x = new DesignPages(20);
            Stores.put(x, 33, 1);
            x.type(4);
            x.crash(pages);
            String cut = "cut at " + pages + ", ";
            due(4, cut + "0 writes nothing", x.remove(34), 0);
            due(4, cut + "remove", x.remove(33), CUT);
            due(4, cut + "written", x.written(), 3 + pages);
            due(4, cut + "node", x.byteAt(10, 0), 2);
            due(4, cut + "root", x.byteAt(2, 0), pages >= 2 ? 1 : 0);
            due(4, cut + "reopen", x.reopen(), pages);
            due(4, cut + "typed", x.count(4), 0);
            due(4, cut + "before is whole", x.find(1, 33, 0), 1);
            due(4, cut + "remove anew", x.remove(33), pages >= 2 ? 0 : 2);
        }
    }

    private static void removeAfterChangedBytes() {
        for (int number : new int[] {0, 1, 3, 31, 32, 255}) {
            DesignPages x = Stores.changedButRight(number);
            due(4, "a key without, number " + number, x.remove(78), 0);
            due(4, "the key, number " + number, x.remove(77), 2);
            Image.due("promise 4: node, number " + number, x, 10, Image.node(2));
            Image.due("promise 4: root, number " + number, x, 2, Image.root(2, 1, 2, 10));
            due(4, "what was there stays, number " + number, x.byteAt(9, 1), number);
        }
    }

    // ---- promise 5

    private static void drop() {
        DesignPages x = new DesignPages(40);
        Stores.put(x, 5, 1);
        Stores.put(x, 5, 2);
        Stores.put(x, 5, 3);
        Stores.put(x, 70, 4);
        x.type(8);
        due(5, "up to 2", x.drop(2), 2);
        due(5, "one page was written", x.written(), 13);
        Image.due("promise 5: root", x, 4, Image.root(4, 3, 0, 13, 2, 15));
        Image.due("promise 5: other roots stay", x, 3, Image.root(3, 1, 0, 13));
        due(5, "newest stays", x.count(0), 4);
        due(5, "oldest", x.count(1), 3);
        due(5, "four pages came free", x.count(2), 28);
        due(5, "typed bytes stay", x.count(4), 1);
        due(5, "2 is gone", x.length(2, 5), OUTSIDE);
        due(5, "3 is there", x.find(3, 5, 0), 3);
        due(5, "4 is there", x.find(4, 5, 0), 3);
        due(5, "reopen", x.reopen(), 4);
        due(5, "oldest then", x.count(1), 3);
        due(5, "the oldest one", x.drop(3), 1);
        due(5, "nothing came free with it", x.count(2), 28);
        due(5, "oldest is newest", x.count(1), 4);
    }

    private static void dropRefusals() {
        DesignPages n = new DesignPages(12);
        due(5, "no versions: 0", n.drop(0), OUTSIDE);
        due(5, "no versions: 1", n.drop(1), OUTSIDE);
        DesignPages x = Stores.three();
        int[] wrong = {0, 3, 4, -1, MIN, MAX};
        for (int version : wrong) {
            due(5, "version " + version, x.drop(version), OUTSIDE);
        }
        x.drop(1);
        due(5, "one that is gone", x.drop(1), OUTSIDE);
        due(5, "nothing was done", x.count(1) * 100 + x.written(), 210);
        x.poke(11, 40, 2);
        due(5, "damage in what would go", x.drop(2), DAMAGED);
        due(5, "OUTSIDE before DAMAGED", x.drop(3), OUTSIDE);
        due(5, "nothing was done", x.count(1) * 100 + x.written(), 210);
        x.crash(0);
        due(5, "DOWN before OUTSIDE", x.drop(3), DOWN);
        due(5, "DOWN", x.drop(2), DOWN);

        DesignPages y = new DesignPages(20);
        Stores.put(y, 5, 1);
        Stores.put(y, 5, 2);
        y.poke(8, 4, 1);
        due(5, "damage in version 1 alone", y.drop(1), DAMAGED);
        y.poke(8, 4, 1);
        due(5, "mended", y.drop(1), 1);

        DesignPages z = new DesignPages(12);
        Stores.put(z, 0);
        Stores.put(z, 0);
        due(5, "no free page is needed", z.drop(1), 1);
        DesignPages last = Stores.openedAt(20, LAST - 1, LAST - 1);
        last.put(1);
        due(5, "at version 1000000", last.drop(LAST - 1), 1);
    }

    private static void dropIsCut() {
        DesignPages x = Stores.three();
        x.type(1);
        x.crash(1);
        due(5, "cut", x.drop(1), CUT);
        due(5, "down", x.isDown() ? 1 : 0, 1);
        due(5, "written", x.written(), 10);
        due(5, "reopen", x.reopen(), 3);
        due(5, "it was the last page", x.count(1), 2);
        due(5, "typed", x.count(4), 0);
        x.crash(2);
        due(5, "not yet", x.drop(2), 1);
        due(5, "then", x.put(1), CUT);
    }

    private static void dropAfterChangedBytes() {
        DesignPages x = new DesignPages(20);
        Stores.put(x, 5, 1);
        Stores.put(x, 40, 2);
        int[] root = Image.root(10, 3, 0, 9, 1, 11);
        for (int i = 41; i < 44; i++) {
            root[i] = 20 + i;
        }
        Image.force(x, 2, Image.sealed(root));
        due(5, "nothing is bad", x.badAt(), NONE);
        due(5, "the root bears its version", x.drop(1), 1);
        Image.due("promise 5: root", x, 2, Image.root(2, 2, 0, 9, 1, 11));
        due(5, "nothing is bad then", x.badAt(), NONE);
        due(5, "reopen", x.reopen(), 2);
        due(5, "oldest", x.count(1), 2);
    }

    // ---- promise 6

    private static void length() {
        DesignPages x = Stores.three();
        due(6, "3 bytes", x.length(1, 5), 3);
        due(6, "in a later version", x.length(3, 5), 3);
        due(6, "1 byte", x.length(2, 40), 1);
        due(6, "0 bytes", x.length(3, 1023), 0);
        due(6, "nothing yet", x.length(2, 1023), NONE);
        due(6, "no thing", x.length(3, 4), NONE);
        due(6, "no node", x.length(3, 500), NONE);
        due(6, "32 bytes", Stores.put(x, 0, new int[32]), 4);
        due(6, "32 bytes", x.length(4, 0), 32);
        int[] versions = {0, 5, -1, MIN, MAX};
        for (int version : versions) {
            due(6, "version " + version, x.length(version, 5), OUTSIDE);
        }
        int[] keys = {-1, 1024, MIN, MAX};
        for (int key : keys) {
            due(6, "key " + key, x.length(3, key), OUTSIDE);
        }
        x.crash(0);
        due(6, "DOWN", x.length(1, 5), DOWN);
        due(6, "DOWN before OUTSIDE", x.length(-1, -1), DOWN);
    }

    private static void lengthOfDamaged() {
        DesignPages x = Stores.three();
        x.poke(8, 10, 1);
        due(6, "its thing", x.length(3, 5), DAMAGED);
        due(6, "another's thing", x.length(3, 40), 1);
        due(6, "another's thing, find", x.find(3, 40, 0), 1);
        due(7, "its thing", x.find(3, 5, 0), DAMAGED);
        due(7, "its thing, wrong i", x.find(3, 5, 50), DAMAGED);
        x.poke(8, 10, 1);
        x.poke(9, 40, 1);
        due(6, "its node", x.length(3, 5), DAMAGED);
        due(6, "its node, no thing", x.length(3, 6), DAMAGED);
        due(6, "another's node", x.length(3, 40), 1);
        due(6, "no node at all", x.length(3, 500), NONE);
        due(7, "its node", x.find(3, 5, 0), DAMAGED);
        x.poke(9, 40, 1);
        x.poke(3, 44, 1);
        due(6, "its root", x.length(3, 5), DAMAGED);
        due(6, "its root, nothing there", x.length(3, 500), DAMAGED);
        due(6, "another root", x.length(2, 5), 3);
        due(6, "OUTSIDE before DAMAGED", x.length(3, 1024), OUTSIDE);
        due(7, "its root", x.find(3, 5, 0), DAMAGED);
        x.poke(3, 44, 1);
        due(6, "mended", x.length(3, 5), 3);

        // What stands where is looked at by its kind alone, not by its key or number.
        DesignPages y = Stores.three();
        Image.force(y, 8, Image.thing(6, 1, 2));
        due(6, "a thing of another key", y.length(3, 5), 2);
        Image.force(y, 9, Image.node(7, 5, 8));
        due(6, "a node of another number", y.length(3, 5), 2);
        due(6, "nothing is bad", y.badAt(), NONE);
    }

    // ---- promise 7

    private static void find() {
        DesignPages x = Stores.three();
        due(7, "byte 0", x.find(1, 5, 0), 10);
        due(7, "byte 1", x.find(2, 5, 1), 20);
        due(7, "byte 2", x.find(3, 5, 2), 30);
        int[] wrong = {3, 4, 32, 43, 48, -1, MIN, MAX};
        for (int i : wrong) {
            due(7, "byte " + i, x.find(3, 5, i), NONE);
        }
        due(7, "of 0 bytes", x.find(3, 1023, 0), NONE);
        due(7, "no thing", x.find(3, 4, 0), NONE);
        due(7, "no node", x.find(3, 500, 0), NONE);
        due(7, "nothing yet", x.find(1, 40, 0), NONE);
        int[] versions = {0, 4, -1, MIN, MAX};
        for (int version : versions) {
            due(7, "version " + version, x.find(version, 5, 0), OUTSIDE);
        }
        int[] keys = {-1, 1024, MIN, MAX};
        for (int key : keys) {
            due(7, "key " + key, x.find(3, key, 0), OUTSIDE);
        }
        for (int i = 0; i < 32; i++) {
            x.type(255 - i);
        }
        x.put(9);
        for (int i = 0; i < 32; i++) {
            due(7, "of 32 bytes", x.find(4, 9, i), 255 - i);
        }
        due(7, "behind 32", x.find(4, 9, 32), NONE);
        x.crash(0);
        due(7, "DOWN", x.find(3, 5, 0), DOWN);
        due(7, "DOWN before OUTSIDE", x.find(9, 5, 0), DOWN);
    }

    // ---- promise 8

    private static void next() {
        DesignPages x = Stores.three();
        due(8, "from 0", x.next(3, 0), 5);
        due(8, "from itself", x.next(3, 5), 5);
        due(8, "into another node", x.next(3, 6), 40);
        due(8, "from a node's end", x.next(3, 31), 40);
        due(8, "from a node's begin", x.next(3, 32), 40);
        due(8, "from 40", x.next(3, 40), 40);
        due(8, "over empty nodes", x.next(3, 41), 1023);
        due(8, "the last key", x.next(3, 1023), 1023);
        due(8, "before it came", x.next(2, 41), NONE);
        due(8, "last key before it came", x.next(2, 1023), NONE);
        due(8, "version 1", x.next(1, 6), NONE);
        Stores.put(x, 37, 1);
        due(8, "a key of 32 n, from the node before", new32().next(1, 31), 64);
        due(8, "the later place in the first node is no bound", x.next(4, 6), 37);
        x.remove(40);
        due(8, "removed", x.next(5, 38), 1023);
        int[] versions = {0, 6, -1, MIN, MAX};
        for (int version : versions) {
            due(8, "version " + version, x.next(version, 0), OUTSIDE);
        }
        int[] keys = {-1, 1024, MIN, MAX};
        for (int key : keys) {
            due(8, "key " + key, x.next(3, key), OUTSIDE);
        }
        x.crash(0);
        due(8, "DOWN", x.next(3, 0), DOWN);
        due(8, "DOWN before OUTSIDE", x.next(-1, 0), DOWN);
    }

    private static void nextOfDamaged() {
        DesignPages x = Stores.three();
        x.poke(11, 20, 1);
        due(8, "found before the damaged node", x.next(3, 0), 5);
        due(8, "the damaged node is on the way", x.next(3, 6), DAMAGED);
        due(8, "it is the first", x.next(3, 32), DAMAGED);
        due(8, "it is the first, by its last key", x.next(3, 63), DAMAGED);
        due(8, "it is behind", x.next(3, 64), 1023);
        due(8, "not in version 1", x.next(1, 6), NONE);
        x.poke(11, 20, 1);
        x.poke(10, 0, 1);
        due(8, "things are not looked at", x.next(3, 6), 40);
        x.poke(3, 0, 1);
        due(8, "the root", x.next(3, 0), DAMAGED);
        due(8, "the root, no node", x.next(3, 1000), DAMAGED);
        due(8, "OUTSIDE before DAMAGED", x.next(3, 1024), OUTSIDE);
        due(8, "another root", x.next(2, 6), 40);
    }

    // ---- promise 9

    private static void crash() {
        DesignPages x = new DesignPages(120);
        int[] wrong = {-2, 1001, MIN, MAX};
        for (int pages : wrong) {
            due(9, "crash " + pages, x.crash(pages), OUTSIDE);
        }
        due(9, "a refused one tells nothing", x.isDown() ? 1 : 0, 0);
        due(9, "1000", x.crash(1000), 1);
        due(9, "3 pages", x.crash(3), 1);
        due(9, "a refused one leaves what was told", x.crash(1001), OUTSIDE);
        due(9, "refusals write nothing", x.put(-1), OUTSIDE);
        due(9, "at the 3rd page", x.put(1), CUT);
        due(9, "DOWN", x.crash(1), DOWN);
        due(9, "DOWN before OUTSIDE", x.crash(-2), DOWN);
        due(9, "reopen", x.reopen(), 1);
        due(9, "no failure is told", x.put(1), 2);
        due(9, "1", x.crash(1), 1);
        due(9, "never", x.crash(NONE), 1);
        due(9, "it does not fail", x.put(1), 3);
        x.crash(1);
        due(9, "more", x.crash(5), 1);
        due(9, "the later one counts, from then on", x.put(1), 4);
        due(9, "the other two pages", x.remove(1), CUT);
        x.reopen();
        x.type(1);
        x.type(2);
        due(9, "at once", x.crash(0), 1);
        due(9, "down at once", x.isDown() ? 1 : 0, 1);
        due(9, "nothing was written for it", x.written(), 14);
        due(9, "reopen", x.reopen(), 5);
        due(9, "typed bytes are gone", x.count(4), 0);

        DesignPages y = new DesignPages(120);
        y.crash(1000);
        for (int v = 1; v <= 333; v++) {
            due(9, "pages up to 999", y.put(5), v);
        }
        due(9, "page 1000", y.put(5), CUT);
        due(9, "written", y.written(), 1000);
    }

    // ---- promise 10

    private static void reopen() {
        DesignPages x = new DesignPages(20);
        due(10, "without a root", x.reopen(), 0);
        due(10, "oldest 1", x.count(1), 1);
        Stores.put(x, 5, 1);
        Stores.put(x, 5, 2);
        x.type(1);
        x.crash(1);
        due(10, "while it is not down", x.reopen(), 2);
        due(10, "no bytes are typed", x.count(4), 0);
        due(10, "no failure is told", x.put(5), 3);
        due(10, "bytes were gone", x.length(3, 5), 0);
        x.crash(0);
        due(10, "when down", x.reopen(), 3);
        due(10, "up", x.isDown() ? 1 : 0, 0);
        due(10, "written stays", x.written(), 9);
        due(10, "all versions", x.find(1, 5, 0), 1);
        x.poke(3, 43, 1);
        due(10, "the newest root is damaged", x.reopen(), 2);
        due(10, "oldest as 2 tells", x.count(1), 1);
        due(10, "its things", x.find(2, 5, 0), 2);
        due(10, "3's pages are free", x.count(2), 8);
        due(10, "3 anew", Stores.put(x, 7, 3), 3);
        due(10, "of 2", x.length(3, 5), 1);
        x.poke(1, 0, 1);
        x.poke(2, 0, 1);
        x.poke(3, 0, 1);
        due(10, "no root is right", x.reopen(), 0);
        due(10, "oldest 1", x.count(1), 1);
        due(10, "all are free", x.count(2), 12);
        due(10, "version 1 is not kept", x.length(1, 5), OUTSIDE);
        due(10, "first", x.put(0), 1);
        x.poke(2, 0, 1);
        due(10, "an older time's root", x.reopen(), 2);

        DesignPages y = Stores.three();
        y.drop(2);
        due(10, "oldest 3", y.count(1), 3);
        for (int page = 1; page <= 3; page++) {
            y.poke(page, 0, 1);
        }
        due(10, "no root is right any more", y.reopen(), 0);
        due(10, "oldest is 1 anew", y.count(1), 1);
        due(10, "version", y.put(0), 1);
        due(10, "its oldest", y.byteAt(1, 8), 1);
    }

    private static void reopenLooksAtRoots() {
        DesignPages x = new DesignPages(20);
        Image.force(x, 6, Image.root(14, 7));
        Image.force(x, 0, Image.root(8, 8));
        due(10, "the greatest version, not page", x.reopen(), 14);
        due(10, "7 before it", x.count(1), 7);
        due(10, "roots that are not there are reached", x.badAt(), 1);
        due(10, "and so no change is made", x.put(1), DAMAGED);
        due(10, "a kept version without a root", x.length(9, 1), DAMAGED);
        due(10, "a kept version's page has another root", x.length(8, 1), NONE);
        Image.force(x, 7, Image.root(15, 15));
        due(10, "only when opened", x.count(0), 14);
        due(10, "opened", x.reopen(), 15);
        due(10, "oldest", x.count(1), 15);
        Image.force(x, 9, Image.root(17, 17));
        due(10, "page 9 has no root", x.reopen(), 15);
    }

    // ---- promise 11

    private static void poke() {
        DesignPages x = new DesignPages(15);
        due(11, "first byte", x.poke(0, 0, 1), 1);
        due(11, "^", x.poke(0, 0, 3), 2);
        due(11, "back", x.poke(0, 0, 2), 0);
        due(11, "last byte", x.poke(14, 47, 255), 255);
        due(11, "it is so then", x.byteAt(14, 47), 255);
        due(11, "its neighbour is not", x.byteAt(14, 46), 0);
        int[][] wrong = {{-1, 0, 1}, {15, 0, 1}, {MIN, 0, 1}, {MAX, 0, 1}, {0, -1, 1}, {0, 48, 1}, {0, MIN, 1},
            {0, MAX, 1}, {0, 0, 0}, {0, 0, 256}, {0, 0, -1}, {0, 0, MIN}, {0, 0, MAX}};
        for (int[] w : wrong) {
            due(11, w[0] + ", " + w[1] + ", " + w[2], x.poke(w[0], w[1], w[2]), OUTSIDE);
        }
        due(11, "a refusal changes nothing", x.byteAt(0, 0), 0);
        due(11, "it is no writing", x.written(), 0);
        x.crash(1);
        x.poke(3, 3, 3);
        due(11, "nor uses power", x.isDown() ? 1 : 0, 0);
        x.crash(0);
        due(11, "when down", x.poke(3, 3, 5), 6);
        due(11, "OUTSIDE when down", x.poke(15, 3, 5), OUTSIDE);
        due(11, "mask 0 when down", x.poke(1, 3, 0), OUTSIDE);
    }

    // ---- promise 12

    private static void byteAt() {
        DesignPages x = new DesignPages(15);
        Stores.put(x, 1, 9, 8);
        due(12, "a byte", x.byteAt(8, 4), 9);
        due(12, "next byte", x.byteAt(8, 5), 8);
        due(12, "first", x.byteAt(0, 0), 0);
        due(12, "last", x.byteAt(14, 47), 0);
        x.poke(14, 47, 200);
        due(12, "poked", x.byteAt(14, 47), 200);
        int[][] wrong = {{-1, 0}, {15, 0}, {MIN, 0}, {MAX, 0}, {0, -1}, {0, 48}, {0, MIN}, {0, MAX}, {-1, 48},
            {1, -48}, {89478486, 0}};
        for (int[] w : wrong) {
            due(12, w[0] + ", " + w[1], x.byteAt(w[0], w[1]), OUTSIDE);
        }
        x.crash(0);
        due(12, "when down", x.byteAt(8, 4), 9);
        due(12, "OUTSIDE when down", x.byteAt(15, 4), OUTSIDE);
    }

    // ---- promise 13

    private static void badAt() {
        DesignPages x = Stores.three();
        due(13, "none", x.badAt(), NONE);
        int[] reached = {1, 2, 3, 8, 9, 10, 11, 12, 13};
        for (int page : reached) {
            for (int i = 0; i < 48; i += 11) {
                x.poke(page, i, 1 << i % 8);
                due(13, "page " + page + " byte " + i, x.badAt(), page);
                x.poke(page, i, 1 << i % 8);
            }
        }
        int[] others = {0, 4, 7, 14, 19};
        for (int page : others) {
            x.poke(page, 5, 1);
            due(13, "page " + page + " is not reached", x.badAt(), NONE);
        }
        x.poke(13, 5, 1);
        x.poke(10, 5, 1);
        due(13, "the least one", x.badAt(), 10);
        x.poke(2, 5, 1);
        due(13, "a root", x.badAt(), 2);
        x.crash(0);
        due(13, "DOWN", x.badAt(), DOWN);

        DesignPages zero = Stores.openedAt(20, 8, 8);
        due(13, "page 0 is right", zero.badAt(), NONE);
        zero.poke(0, 20, 1);
        due(13, "page 0", zero.badAt(), 0);

        DesignPages y = new DesignPages(20);
        Stores.put(y, 1, 1);
        Stores.put(y, 1, 2);
        y.poke(8, 9, 1);
        due(13, "an old version's thing", y.badAt(), 8);
        y.poke(9, 9, 1);
        due(13, "its node hides it", y.badAt(), 9);
        due(13, "and lets it go", y.count(2), 9);
        y.poke(1, 9, 1);
        due(13, "its root hides both", y.badAt(), 1);
        due(13, "and lets both go", y.count(2), 10);
    }

    /** A page must be right as what it is told to be, wherever it is told. */
    private static void badAtAsKind() {
        DesignPages x = Stores.three();
        Image.force(x, 9, Image.node(0, 5, 8, 6, 11));
        due(13, "a node told as a thing", x.badAt(), 11);
        Image.force(x, 9, Image.node(0, 5, 8, 6, 8));
        due(13, "a thing told twice", x.badAt(), NONE);
        Image.force(x, 3, Image.root(3, 1, 0, 9, 1, 10));
        due(13, "a thing told as a node", x.badAt(), 10);
        due(13, "13 and 12 are free then", x.count(2), 8);

        DesignPages y = Stores.three();
        Image.force(y, 9, Image.node(0, 5, 9));
        due(13, "a node that tells itself", y.badAt(), 9);
        due(13, "8 is free then", y.count(2), 7);

        // Told as a thing first, as a node later: it tells its things all the same.
        DesignPages z = new DesignPages(20);
        Stores.put(z, 5, 1);
        Image.force(z, 9, Image.node(0, 5, 8, 6, 12));
        Image.force(z, 12, Image.node(1, 0, 14));
        Image.force(z, 14, Image.thing(32, 1));
        Image.force(z, 1, Image.root(1, 1, 0, 9, 1, 12));
        due(13, "thing and node", z.badAt(), 12);
        due(13, "its thing is reached", z.count(2), 8);
        z.poke(14, 9, 9);
        due(13, "12 is the least", z.badAt(), 12);
    }

    /** Bytes behind the places of a root or node tell nothing, whatever they are. */
    private static void bytesBehindThePlaces() {
        for (int b = 1; b < 256; b += 127) {
            DesignPages x = new DesignPages(20);
            Stores.put(x, 5, 1);
            Image.force(x, 9, Image.with(Image.node(0, 5, 8), 34, b));
            Image.force(x, 1, Image.with(Image.root(1, 1, 0, 9), 41, b));
            due(13, "nothing is bad with " + b, x.badAt(), NONE);
            due(14, "free with " + b, x.count(2), 10);
            due(14, "keys with " + b, x.count(3), 1);
            due(8, "of the node with " + b, x.next(1, 6), NONE);
            due(8, "of the last node with " + b, x.next(1, 1023), NONE);
        }
        DesignPages y = new DesignPages(20);
        Stores.put(y, 5, 1);
        Image.force(y, 9, Image.with(Image.node(0, 5, 8), 34, 10));
        Image.force(y, 1, Image.with(Image.root(1, 1, 0, 9), 41, 11));
        due(13, "pages that are there are not told so", y.badAt(), NONE);
        due(14, "nor reached", y.count(2), 10);
    }

    // ---- promise 14

    private static void count() {
        DesignPages x = new DesignPages(20);
        int[] wrong = {-1, 5, MIN, MAX};
        for (int what : wrong) {
            due(14, "what " + what, x.count(what), OUTSIDE);
        }
        Stores.put(x, 5, 1);
        Stores.put(x, 6, 2);
        Stores.put(x, 1023, 3);
        x.type(4);
        x.type(4);
        due(14, "newest", x.count(0), 3);
        due(14, "oldest", x.count(1), 1);
        due(14, "free", x.count(2), 6);
        due(14, "keys", x.count(3), 3);
        due(14, "typed", x.count(4), 2);
        x.drop(2);
        due(14, "oldest behind drop", x.count(1), 3);
        due(14, "free behind drop", x.count(2), 7);
        x.remove(5);
        due(14, "keys behind remove", x.count(3), 2);
        due(14, "free behind remove", x.count(2), 6);
        x.poke(8, 5, 1);
        due(14, "things are not looked at", x.count(3), 2);
        x.crash(0);
        for (int what = -1; what <= 5; what++) {
            due(14, "DOWN " + what, x.count(what), DOWN);
        }

        DesignPages y = new DesignPages(120);
        for (int t = 0; t < 32; t++) {
            y.put(t);
        }
        due(14, "32 keys of a node", y.count(3), 32);
        for (int n = 1; n < 32; n++) {
            y.put(n * 32 + 31);
        }
        due(14, "and one of each other", y.count(3), 63);
        due(14, "keys of page 0 and on", y.next(63, 32), 63);
    }

    private static void countOfDamaged() {
        DesignPages x = Stores.three();
        x.put(41);
        due(14, "keys", x.count(3), 4);
        x.poke(15, 3, 1);
        due(14, "a node is not right", x.count(3), 2);
        due(14, "it is reached, its new thing is not", x.count(2), 5);
        x.poke(15, 3, 1);
        x.poke(11, 3, 1);
        due(14, "an old node", x.count(3), 4);
        x.poke(4, 3, 1);
        due(14, "the root", x.count(3), 0);
        due(14, "newest all the same", x.count(0), 4);
        due(14, "oldest all the same", x.count(1), 1);
    }

    // ---- promise 15

    private static void written() {
        DesignPages x = new DesignPages(30);
        due(15, "none", x.written(), 0);
        x.type(1);
        x.put(5);
        due(15, "put", x.written(), 3);
        x.put(-1);
        x.remove(6);
        x.drop(1);
        due(15, "refusals and 0", x.written(), 3);
        x.remove(5);
        due(15, "remove", x.written(), 5);
        x.drop(1);
        due(15, "drop", x.written(), 6);
        x.poke(2, 2, 2);
        x.poke(2, 2, 2);
        due(15, "poke", x.written(), 6);
        x.crash(1);
        x.put(1);
        due(15, "when down", x.written(), 7);
        x.put(1);
        due(15, "a call when down", x.written(), 7);
        x.reopen();
        due(15, "reopen", x.written(), 7);
        x.put(1);
        due(15, "since the beginning", x.written(), 10);
    }

    // ---- promise 16

    private static void isDown() {
        DesignPages x = new DesignPages(12);
        Check.due("promise 16: new", x.isDown(), false);
        x.crash(3);
        Check.due("promise 16: told", x.isDown(), false);
        x.put(1);
        Check.due("promise 16: cut", x.isDown(), true);
        x.poke(0, 0, 1);
        Check.due("promise 16: still", x.isDown(), true);
        x.reopen();
        Check.due("promise 16: reopened", x.isDown(), false);
        x.crash(0);
        Check.due("promise 16: at once", x.isDown(), true);
        x.reopen();
        x.crash(NONE);
        Check.due("promise 16: never", x.isDown(), false);
    }

    // ---- "A page is RIGHT as a kind"

    private static void rightAsKind() {
        int[] root = Image.root(13, 10, 0, 8, 31, 19);
        opens("plain", 5, root, 13);
        opens("kind 0", 5, Image.with(root, 0, 0), 0);
        opens("kind 2", 5, Image.with(root, 0, 2), 0);
        opens("kind 129", 5, Image.with(root, 0, 129), 0);
        opens("another page", 4, root, 0);
        opens("page 8 more", 13, root, 0);
        opens("node page 7", 5, Image.with(root, 9, 7), 0);
        opens("node page 1", 5, Image.with(root, 40, 1), 0);
        opens("node page P", 5, Image.with(root, 9, 20), 0);
        opens("node page P, last", 5, Image.with(root, 40, 20), 0);
        opens("node page 255", 5, Image.with(root, 25, 255), 0);
        opens("bytes behind the nodes are not looked at", 5, Image.with(root, 41, 255), 13);
        opens("nor is the last of them", 5, Image.with(root, 43, 1), 13);
        opens("oldest is version", 5, Image.root(13, 13), 13);
        opens("oldest above version", 5, Image.root(13, 14), 0);
        opens("oldest 7 below", 5, Image.root(13, 6), 13);
        opens("oldest 8 below", 5, Image.root(13, 5), 0);
        opens("oldest 1", 3, Image.root(3, 1), 3);
        opens("oldest 0", 3, Image.root(3, 0), 0);
        opens("oldest negative", 3, Image.root(3, -1), 0);
        opens("oldest least", 3, Image.root(3, MIN), 0);
        opens("version 0", 0, Image.root(0, 0), 0);
        opens("version 1", 1, Image.root(1, 1), 1);
        opens("version negative", 0, Image.root(-8, -8), 0);
        opens("version least", 0, Image.root(MIN, MIN), 0);
        opens("version 1000000", 0, Image.root(LAST, LAST - 7), LAST);
        opens("version 1000001", 1, Image.root(LAST + 1, LAST), 0);
        opens("version 1000008", 0, Image.root(LAST + 8, LAST + 8), 0);
        for (int i = 0; i < 48; i++) {
            int[] changed = root.clone();
            changed[i] ^= 128;
            opens("one changed byte " + i, 5, changed, 0);
        }

        int[] node = Image.node(0, 5, 8);
        nodeIs("plain", node, 3);
        nodeIs("kind 3", Image.with(node, 0, 3), DAMAGED);
        nodeIs("page 7", Image.with(node, 2, 7), DAMAGED);
        nodeIs("page 1, last", Image.with(node, 33, 1), DAMAGED);
        nodeIs("page P", Image.with(node, 2, 20), DAMAGED);
        nodeIs("page P, last", Image.with(node, 33, 20), DAMAGED);
        nodeIs("page P - 1", Image.with(node, 33, 19), 3);
        nodeIs("page 8", Image.with(node, 33, 8), 3);
        nodeIs("its number is not looked at", Image.with(node, 1, 200), 3);
        nodeIs("bytes behind are not looked at", Image.with(node, 34, 1), 3);

        int[] thing = Image.thing(5, 10, 20, 30);
        thingIs("plain", thing, 3);
        thingIs("kind 2", Image.with(thing, 0, 2), DAMAGED);
        thingIs("length 32", Image.with(thing, 3, 32), 32);
        thingIs("length 33", Image.with(thing, 3, 33), DAMAGED);
        thingIs("length 255", Image.with(thing, 3, 255), DAMAGED);
        thingIs("length 0", Image.with(thing, 3, 0), 0);
        thingIs("its key is not looked at", Image.with(thing, 1, 200), 3);
        thingIs("bytes behind are not looked at", Image.with(thing, 43, 1), 3);
    }

    private static void opens(String what, int page, int[] image, int newest) {
        DesignPages x = new DesignPages(20);
        Image.force(x, page, image);
        due(10, "root with " + what, x.reopen(), newest);
        due(14, "newest of a root with " + what, x.count(0), newest);
    }

    private static void nodeIs(String what, int[] image, int length) {
        DesignPages x = Stores.three();
        Image.force(x, 9, image);
        due(6, "node with " + what, x.length(3, 5), length);
        due(8, "node with " + what, x.next(3, 5), length == DAMAGED ? DAMAGED : 5);
    }

    private static void thingIs(String what, int[] image, int length) {
        DesignPages x = Stores.three();
        Image.force(x, 8, image);
        due(6, "thing with " + what, x.length(3, 5), length);
        due(13, "thing with " + what, x.badAt(), length == DAMAGED ? 8 : NONE);
    }
}
