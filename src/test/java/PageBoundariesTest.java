import java.util.Arrays;

/** The boundary cases of the document's "Terms", one test for each of its sentences. */
public final class PageBoundariesTest {
    private static final int NONE = DesignPages.NONE;
    private static final int OUTSIDE = DesignPages.OUTSIDE;
    private static final int DAMAGED = DesignPages.DAMAGED;
    private static final int MIN = Integer.MIN_VALUE;
    private static final int MAX = Integer.MAX_VALUE;
    private static final int LAST = Stores.LAST_VERSION;
    private static final int ROOT = 1;
    private static final int NODE = 2;
    private static final int THING = 3;

    public static void main(String[] args) {
        bytesOfPages();
        bytesOfTheSum();
        sumsWrittenOut();
        highestByteFirst();
        kinds();
        bytesNotTold();
        pageOfARoot();
        placesOfNodes();
        placesOfThings();
        lengthsOfThings();
        rightKind();
        rightSum();
        versionOfARoot();
        versionFitsThePage();
        oldestNotAboveVersion();
        oldestNotBelowVersionLess7();
        oldest1AtLeast();
        pagesTold();
        lengthOfARightThing();
        moreIsNotLookedAt();
        keys();
        Check.end();
    }

    // ---- what a page is

    private static void bytesOfPages() {
        Check.says("P - 1 have 48 bytes each (0 .. 255), all 0 at first");
        for (int pages : new int[] {12, 13, 119, 120}) {
            DesignPages x = new DesignPages(pages);
            String of = " of " + pages;
            Check.due("page 0, byte 0" + of, x.byteAt(0, 0), 0);
            Check.due("page 0, byte -1" + of, x.byteAt(0, -1), OUTSIDE);
            Check.due("page 0, byte 47" + of, x.byteAt(0, 47), 0);
            Check.due("page 0, byte 48" + of, x.byteAt(0, 48), OUTSIDE);
            Check.due("page -1, byte 0" + of, x.byteAt(-1, 0), OUTSIDE);
            Check.due("page -1, byte 48" + of, x.byteAt(-1, 48), OUTSIDE);
            Check.due("page P - 1, byte 47" + of, x.byteAt(pages - 1, 47), 0);
            Check.due("page P - 1, byte 48" + of, x.byteAt(pages - 1, 48), OUTSIDE);
            Check.due("page P, byte 0" + of, x.byteAt(pages, 0), OUTSIDE);
            Check.due("page P, byte -1" + of, x.byteAt(pages, -1), OUTSIDE);
            for (int page = 0; page < pages; page++) {
                Image.due("at first" + of, new DesignPages(pages), page, Image.empty());
            }
        }
        DesignPages y = new DesignPages(12);
        Check.due("up to 255", y.poke(8, 47, 255), 255);
        Check.due("no other page's byte", y.byteAt(9, 0) + y.byteAt(8, 46), 0);
        Check.due("down to 0", y.poke(8, 47, 255), 0);
        Check.due("the highest bit", y.poke(8, 47, 128), 128);
        Check.due("is no sign", y.byteAt(8, 47), 128);
        Stores.put(y, 0, 0, 127, 128, 255);
        Check.due("typed 0", y.byteAt(8, 4), 0);
        Check.due("typed 127", y.byteAt(8, 5), 127);
        Check.due("typed 128", y.byteAt(8, 6), 128);
        Check.due("typed 255", y.byteAt(8, 7), 255);
    }

    /** Byte 43 is the last one that the sum is of; the bytes of the sum itself are not. */
    private static void bytesOfTheSum() {
        Check.says("for each of bytes 0 .. 43");
        for (int i = 0; i < 44; i++) {
            for (int mask : new int[] {1, 128, 255}) {
                DesignPages x = Stores.three();
                x.poke(8, i, mask);
                Check.due("byte " + i + " ^ " + mask + " with the old sum", x.badAt(), 8);
            }
        }
        int[] thing = Image.thing(5, 10, 20, 30);
        DesignPages y = Stores.three();
        Image.force(y, 8, Image.with(thing, 43, 9));
        Check.due("byte 43 with a new sum", y.badAt(), NONE);
        int[] ofMore = thing.clone();
        int s = 0;
        for (int i = 0; i < 45; i++) {
            s = Integer.rotateLeft(s ^ ofMore[i], 9) * 0x27D4EB2F;
        }
        sumInto(ofMore, s);
        DesignPages z = Stores.three();
        Image.force(z, 8, ofMore);
        Check.due("a sum of byte 44 too", z.badAt(), 8);
        int[] ofLess = thing.clone();
        s = 0;
        for (int i = 0; i < 43; i++) {
            s = Integer.rotateLeft(s ^ ofLess[i], 9) * 0x27D4EB2F;
        }
        sumInto(ofLess, s);
        DesignPages w = Stores.three();
        Image.force(w, 8, ofLess);
        Check.due("a sum without byte 43", w.badAt(), 8);
    }

    private static void sumInto(int[] image, int s) {
        for (int i = 0; i < 4; i++) {
            image[44 + i] = s >>> 24 - 8 * i & 255;
        }
    }

    /** Sums that were made outside of Java, with the turn and the product cut to 32 bits by hand. */
    private static void sumsWrittenOut() {
        Check.says("s = rotl(s ^ byte, 9) * 0x27D4EB2F (32 bits; rotl turns to the left)");
        DesignPages x = new DesignPages(12);
        int[] text = new int[32];
        Arrays.fill(text, 255);
        Stores.put(x, 1023, text);
        sumIs("thing of 32 bytes 255", x, 8, 0x979F27B3L);
        sumIs("node 31", x, 9, 0x5CC7F6D7L);
        sumIs("root 1", x, 1, 0x4A0CF8B5L);
        DesignPages y = new DesignPages(12);
        y.put(0);
        sumIs("thing without bytes", y, 8, 0x5171AA4BL);
    }

    private static void sumIs(String what, DesignPages x, int page, long sum) {
        long got = 0;
        for (int i = 44; i < 48; i++) {
            got = got * 256 + x.byteAt(page, i);
        }
        Check.due(what, got, sum);
    }

    private static void highestByteFirst() {
        Check.says("it stands in bytes 44 .. 47 (all numbers: the highest byte first)");
        int[][] versions = {{255, 0, 0, 0, 255}, {256, 0, 0, 1, 0}, {65535, 0, 0, 255, 255}, {65536, 0, 1, 0, 0},
            {LAST, 0, 15, 66, 64}};
        for (int[] v : versions) {
            DesignPages x = Stores.openedAt(12, v[0] - 1, v[0] - 1);
            Check.due("version", x.put(0), v[0]);
            DesignPages y = Stores.openedAt(12, v[0] - 1, v[0] - 1);
            y.put(0);
            y.drop(v[0] - 1);
            for (int i = 1; i <= 4; i++) {
                Check.due("VERSION " + v[0] + ", byte " + i, x.byteAt(v[0] % 8, i), v[i]);
                Check.due("OLDEST " + v[0] + ", byte " + (4 + i), y.byteAt(v[0] % 8, 4 + i), v[i]);
            }
        }
        int[][] keys = {{0, 0, 0}, {255, 0, 255}, {256, 1, 0}, {1023, 3, 255}};
        for (int[] k : keys) {
            DesignPages x = new DesignPages(12);
            x.put(k[0]);
            Check.due("KEY " + k[0] + ", byte 1", x.byteAt(8, 1), k[1]);
            Check.due("KEY " + k[0] + ", byte 2", x.byteAt(8, 2), k[2]);
        }
        int[] turned = Image.thing(5, 10, 20, 30);
        turned[44] ^= turned[47];
        turned[47] ^= turned[44];
        turned[44] ^= turned[47];
        DesignPages z = Stores.three();
        Image.force(z, 8, turned);
        Check.due("a sum with its lowest byte first", z.badAt(), 8);
    }

    private static void kinds() {
        Check.says("Byte 0 is its KIND");
        DesignPages x = Stores.three();
        for (int v = 1; v <= 3; v++) {
            Check.due("thing of version " + v, x.byteAt(6 + 2 * v, 0), THING);
            Check.due("node of version " + v, x.byteAt(7 + 2 * v, 0), NODE);
            Check.due("root of version " + v, x.byteAt(v, 0), ROOT);
        }
        x.remove(5);
        Check.due("node of remove()", x.byteAt(14, 0), NODE);
        Check.due("root of remove()", x.byteAt(4, 0), ROOT);
        x.drop(1);
        Check.due("root of drop()", x.byteAt(4, 0), ROOT);
    }

    /** Pages that are written are full of 255 before, so that what is left over would show. */
    private static void bytesNotTold() {
        Check.says("Bytes that are not told are 0");
        for (int length : new int[] {0, 1, 31, 32}) {
            int[] text = new int[length];
            Arrays.fill(text, 9);
            DesignPages x = new DesignPages(12);
            fill(x, 1, 8, 9);
            Stores.put(x, 1023, text);
            String of = "length " + length;
            Image.due(of + ", thing", x, 8, Image.thing(1023, text));
            Image.due(of + ", node", x, 9, Image.node(31, 31, 8));
            Image.due(of + ", root", x, 1, Image.root(1, 1, 31, 9));
        }
        DesignPages y = new DesignPages(12);
        y.put(0);
        fill(y, 2, 10);
        Check.due("remove()", y.remove(0), 2);
        Image.due("remove(), node", y, 10, Image.node(0));
        Image.due("remove(), root", y, 2, Image.root(2, 1, 0, 10));
    }

    private static void fill(DesignPages x, int... pages) {
        int[] full = new int[Image.BYTES];
        Arrays.fill(full, 255);
        for (int page : pages) {
            Image.force(x, page, full);
        }
    }

    // ---- where things stand

    private static void pageOfARoot() {
        Check.says("ROOT (kind 1), on page VERSION % 8");
        DesignPages x = new DesignPages(40);
        for (int v = 1; v <= 17; v++) {
            x.put(7);
            Check.due("root of " + v, x.byteAt(v % 8, 0), ROOT);
            Check.due("its VERSION", x.byteAt(v % 8, 4), v);
            Check.due("page 7 holds", x.byteAt(7, 4), v < 7 ? 0 : v < 15 ? 7 : 15);
            Check.due("page 0 holds", x.byteAt(0, 4), v < 8 ? 0 : v < 16 ? 8 : 16);
            Check.due("page 1 holds", x.byteAt(1, 4), v < 9 ? 1 : v < 17 ? 9 : 17);
        }
    }

    private static void placesOfNodes() {
        Check.says("9 .. 40 the pages of NODES 0 .. 31 (0: none)");
        DesignPages x = new DesignPages(20);
        x.put(0);
        Image.due("node 0", x, 1, Image.root(1, 1, 0, 9));
        Check.due("byte 9", x.byteAt(1, 9), 9);
        x.put(992);
        Image.due("node 31", x, 2, Image.root(2, 1, 0, 9, 31, 11));
        Check.due("byte 40", x.byteAt(2, 40), 11);
        Check.due("no page: nothing there", x.length(2, 32), NONE);
        Check.due("no page: nothing there, node 30", x.length(2, 991), NONE);
        Check.due("page 11: something there", x.length(2, 992), 0);
        Image.force(x, 0, Image.node(0, 0, 8, 31, 8));
        Check.due("none, even if page 0 is a node, length()", x.length(2, 32), NONE);
        Check.due("none, even if page 0 is a node, next()", x.next(2, 1), 992);
        Check.due("none, even if page 0 is a node, count()", x.count(3), 2);
        Check.due("none, even if page 0 is a node, put()", x.put(33), 3);
        Image.due("none, even if page 0 is a node", x, 13, Image.node(1, 1, 12));
    }

    private static void placesOfThings() {
        Check.says("2 .. 33 the pages of things 0 .. 31 (0: none)");
        DesignPages x = new DesignPages(20);
        x.put(32);
        Image.due("thing 0", x, 9, Image.node(1, 0, 8));
        Check.due("byte 2", x.byteAt(9, 2), 8);
        x.put(63);
        Image.due("thing 31", x, 11, Image.node(1, 0, 8, 31, 10));
        Check.due("byte 33", x.byteAt(11, 33), 10);
        Check.due("no page: nothing there", x.length(2, 33), NONE);
        Check.due("no page: nothing there, thing 30", x.length(2, 62), NONE);
        Check.due("page 10: something there", x.length(2, 63), 0);
        Image.force(x, 0, Image.thing(33, 1, 2));
        Check.due("none, even if page 0 is a thing, length()", x.length(2, 33), NONE);
        Check.due("none, even if page 0 is a thing, find()", x.find(2, 33, 0), NONE);
        Check.due("none, even if page 0 is a thing, next()", x.next(2, 33), 63);
        Check.due("none, even if page 0 is a thing, remove()", x.remove(33), 0);
    }

    private static void lengthsOfThings() {
        Check.says("3 its LENGTH (0 .. 32), 4 and on its bytes");
        for (int length : new int[] {0, 1, 2, 31, 32}) {
            int[] text = new int[length];
            for (int i = 0; i < length; i++) {
                text[i] = 200 + i;
            }
            DesignPages x = new DesignPages(12);
            Stores.put(x, 9, text);
            Image.due("length " + length, x, 8, Image.thing(9, text));
            Check.due("byte 3", x.byteAt(8, 3), length);
            Check.due("byte 4", x.byteAt(8, 4), length == 0 ? 0 : 200);
            Check.due("the last one", x.byteAt(8, 3 + length), length == 0 ? 0 : 199 + length);
            Check.due("the one behind", x.byteAt(8, 4 + length), 0);
        }
    }

    // ---- when a page is RIGHT

    private static void rightKind() {
        Check.says("A page is RIGHT as a kind, if that is its kind");
        for (int kind = 0; kind < 256; kind++) {
            opens("kind " + kind, 5, Image.with(Image.root(13, 10), 0, kind), kind == ROOT);
            nodeIs("kind " + kind, Image.with(Image.node(0, 5, 8), 0, kind), kind == NODE);
            thingIs("kind " + kind, Image.with(Image.thing(5, 10, 20, 30), 0, kind), kind == THING);
        }
        DesignPages x = Stores.three();
        Image.force(x, 8, Image.empty());
        Check.due("an empty page's sum fits, its kind does not", x.badAt(), 8);
    }

    private static void rightSum() {
        Check.says("its sum is right");
        for (int i = 0; i < Image.BYTES; i++) {
            for (int mask : new int[] {1, 128}) {
                opens("byte " + i + " ^ " + mask, 5, poked(Image.root(13, 10, 3, 9), i, mask), false);
                nodeIs("byte " + i + " ^ " + mask, poked(Image.node(0, 5, 8), i, mask), false);
                thingIs("byte " + i + " ^ " + mask, poked(Image.thing(5, 10, 20, 30), i, mask), false);
            }
        }
        opens("no change", 5, Image.root(13, 10, 3, 9), true);
        nodeIs("no change", Image.node(0, 5, 8), true);
        thingIs("no change", Image.thing(5, 10, 20, 30), true);
    }

    private static int[] poked(int[] image, int i, int mask) {
        int[] changed = image.clone();
        changed[i] ^= mask;
        return changed;
    }

    private static void versionOfARoot() {
        Check.says("of a ROOT VERSION is 1 .. 1000000");
        opens("1", 1, Image.root(1, 1), true);
        opens("0", 0, Image.root(0, 0), false);
        opens("0 with OLDEST 1", 0, Image.root(0, 1), false);
        opens("-1 and its rest", 7, Image.root(-1, -1), false);
        opens("-8", 0, Image.root(-8, -8), false);
        opens("the least number", 0, Image.root(MIN, MIN), false);
        opens("999999", 7, Image.root(LAST - 1, LAST - 1), true);
        opens("1000000", 0, Image.root(LAST, LAST), true);
        opens("1000001", 1, Image.root(LAST + 1, LAST + 1), false);
        opens("1000001, OLDEST 1000000", 1, Image.root(LAST + 1, LAST), false);
        opens("1000008", 0, Image.root(LAST + 8, LAST + 8), false);
        opens("the greatest number", 7, Image.root(MAX, MAX), false);
    }

    private static void versionFitsThePage() {
        Check.says("VERSION % 8 the page");
        for (int page = 0; page < 8; page++) {
            for (int version = 9; version <= 16; version++) {
                opens(version + " on page " + page, page, Image.root(version, version), version % 8 == page);
            }
        }
        opens("8 on page 8", 8, Image.root(8, 8), false);
        opens("15 on page 15", 15, Image.root(15, 15), false);
    }

    private static void oldestNotAboveVersion() {
        Check.says("OLDEST is not above VERSION");
        for (int version : new int[] {1, 7, 8, 500, LAST}) {
            opens("as VERSION " + version, version % 8, Image.root(version, version), true);
            opens("1 above " + version, version % 8, Image.root(version, version + 1), false);
            opens("8 above " + version, version % 8, Image.root(version, version + 8), false);
            opens("the greatest number above " + version, version % 8, Image.root(version, MAX), false);
        }
    }

    private static void oldestNotBelowVersionLess7() {
        Check.says("not below VERSION - 7");
        for (int version : new int[] {9, 10, 500, 999999, LAST}) {
            opens("6 below " + version, version % 8, Image.root(version, version - 6), true);
            opens("7 below " + version, version % 8, Image.root(version, version - 7), true);
            opens("8 below " + version, version % 8, Image.root(version, version - 8), false);
            opens("1, below " + version, version % 8, Image.root(version, 1), false);
        }
        opens("7 below 8", 0, Image.root(8, 1), true);
        opens("the least number", 4, Image.root(500, MIN), false);
    }

    private static void oldest1AtLeast() {
        Check.says("and 1 at least");
        for (int version = 1; version <= 8; version++) {
            opens("1 of " + version, version % 8, Image.root(version, 1), true);
            opens("0 of " + version, version % 8, Image.root(version, 0), false);
            opens("-1 of " + version, version % 8, Image.root(version, -1), false);
            opens("7 below " + version, version % 8, Image.root(version, version - 7), version == 8);
        }
    }

    private static void pagesTold() {
        Check.says("of a ROOT and a NODE all pages told are 0 or 8 .. P - 1");
        for (int pages : new int[] {12, 20, 120}) {
            int[][] told = {{0, 1}, {1, 0}, {7, 0}, {8, 1}, {pages - 1, 1}, {pages, 0}, {128, 0}, {255, 0}};
            for (int place = 0; place < 32; place++) {
                for (int[] t : told) {
                    String what = "page " + t[0] + " of " + pages + " at place " + place;
                    DesignPages x = Stores.opened(pages, 5, Image.root(13, 13, place, t[0]));
                    Check.due("root, " + what, x.count(0), t[1] == 1 ? 13 : 0);
                    DesignPages y = new DesignPages(pages);
                    y.put(0);
                    Image.force(y, 9, Image.node(0, place, t[0]));
                    int asked = place == 0 ? 1 : 0;
                    Check.due("node, " + what, y.length(1, asked), t[1] == 1 ? NONE : DAMAGED);
                }
            }
        }
    }

    private static void lengthOfARightThing() {
        Check.says("of a THING LENGTH is 32 at most");
        int[] thing = Image.thing(5, 10, 20, 30);
        for (int length = 0; length < 256; length++) {
            thingIs("LENGTH " + length, Image.with(thing, 3, length), length <= 32);
        }
        DesignPages x = Stores.three();
        Image.force(x, 8, Image.with(thing, 3, 32));
        Check.due("32", x.length(3, 5), 32);
        Check.due("byte 31 of 32", x.find(3, 5, 31), 0);
        Check.due("byte 32 of 32", x.find(3, 5, 32), NONE);
        Image.force(x, 8, Image.with(thing, 3, 0));
        Check.due("0", x.length(3, 5), 0);
        Check.due("byte 0 of 0", x.find(3, 5, 0), NONE);
    }

    private static void moreIsNotLookedAt() {
        Check.says("(More is not looked at.)");
        for (int b : new int[] {1, 7, 20, 255}) {
            for (int i = 41; i < 44; i++) {
                opens("byte " + i + " is " + b, 5, Image.with(Image.root(13, 10), i, b), true);
            }
            nodeIs("number " + b, Image.with(Image.node(0, 5, 8), 1, b), true);
            for (int i = 34; i < 44; i++) {
                nodeIs("byte " + i + " is " + b, Image.with(Image.node(0, 5, 8), i, b), true);
            }
            int[] thing = Image.thing(5, 10, 20, 30);
            for (int i : new int[] {1, 2, 7, 35, 36, 43}) {
                thingIs("byte " + i + " is " + b, Image.with(thing, i, b), true);
            }
        }
        DesignPages x = Stores.three();
        Image.force(x, 3, Image.with(Image.root(3, 1, 0, 9, 1, 11, 31, 13), 41, 9));
        Image.force(x, 11, Image.with(Image.node(1, 8, 10), 34, 19));
        Check.due("a page behind the places of things", x.next(3, 41), 1023);
        Check.due("a page behind the places, count()", x.count(3), 3);
        Check.due("a page behind the places, free pages", x.count(2), 6);
        Check.due("a page behind the places, badAt()", x.badAt(), NONE);
        x.remove(1023);
        Image.force(x, 4, Image.with(Image.root(4, 1, 0, 9, 1, 11, 31, 14), 41, 9));
        Check.due("a page behind the places of nodes", x.next(4, 41), NONE);
        Check.due("a page behind the places of nodes, count()", x.count(3), 2);
        rootOfAnotherVersion();
    }

    /** Two pokes are enough to come there: the root of version 9 stands where version 1 is asked. */
    private static void rootOfAnotherVersion() {
        DesignPages x = Stores.upTo(9);
        x.poke(1, 20, 1);
        Check.due("root 9 is not right: reopen()", x.reopen(), 8);
        Check.due("root 9 is not right: OLDEST", x.count(1), 1);
        Check.due("root 9 is not right: find()", x.find(1, 7, 0), DAMAGED);
        Check.due("root 9 is not right: badAt()", x.badAt(), 1);
        Check.due("root 9 is not right: free pages", x.count(2), 32 - 14);
        x.poke(1, 20, 1);
        Check.due("root 9 for version 1: find()", x.find(1, 7, 0), 9);
        Check.due("root 9 for version 1: badAt()", x.badAt(), NONE);
        Check.due("root 9 for version 1: free pages", x.count(2), 32 - 16);
        Check.due("root 9 for version 1: version 9 is not kept", x.length(9, 7), OUTSIDE);
        Check.due("root 9 for version 1: put()", Stores.put(x, 7), 9);
        Check.due("root 9 for version 1: OLDEST behind put()", x.count(1), 2);
        Check.due("root 9 for version 1: length() behind put()", x.length(9, 7), 0);
    }

    /** Whether a page is right as a root, by what is opened. */
    private static void opens(String what, int page, int[] image, boolean right) {
        DesignPages x = new DesignPages(20);
        Image.force(x, page, image);
        int version = image[1] << 24 | image[2] << 16 | image[3] << 8 | image[4];
        Check.due("root, " + what, x.reopen(), right ? version : 0);
    }

    private static void nodeIs(String what, int[] image, boolean right) {
        DesignPages x = Stores.three();
        Image.force(x, 9, image);
        Check.due("node, " + what, x.badAt(), right ? NONE : 9);
        Check.due("node, " + what + ", length()", x.length(3, 5), right ? 3 : DAMAGED);
        Check.due("node, " + what + ", next()", x.next(3, 0), right ? 5 : DAMAGED);
        Check.due("node, " + what + ", count()", x.count(3), right ? 3 : 2);
    }

    private static void thingIs(String what, int[] image, boolean right) {
        DesignPages x = Stores.three();
        Image.force(x, 8, image);
        Check.due("thing, " + what, x.badAt(), right ? NONE : 8);
        Check.due("thing, " + what + ", length()", x.length(3, 5), right ? image[3] : DAMAGED);
    }

    // ---- keys

    private static void keys() {
        Check.says("KEYS are 0 .. 1023: key k is thing k % 32 of node k / 32");
        for (int key : new int[] {0, 1, 30, 31, 32, 33, 63, 64, 511, 512, 991, 992, 1022, 1023}) {
            DesignPages x = new DesignPages(12);
            Check.due("put(" + key + ")", x.put(key), 1);
            Image.due("node of " + key, x, 9, Image.node(key / 32, key % 32, 8));
            Image.due("root of " + key, x, 1, Image.root(1, 1, key / 32, 9));
            for (int other : new int[] {key - 32, key - 1, key + 1, key + 32}) {
                boolean inside = other >= 0 && other <= 1023;
                Check.due(other + " beside " + key, x.length(1, other), inside ? NONE : OUTSIDE);
            }
            Check.due("remove(" + key + ")", x.remove(key), 2);
        }
        for (int key : new int[] {-1, 1024, -32, 1055, MIN, MAX}) {
            Unchanged.due("put(" + key + ")", Stores::three, x -> x.put(key), OUTSIDE);
            Unchanged.due("remove(" + key + ")", Stores::three, x -> x.remove(key), OUTSIDE);
            Unchanged.due("length(3, " + key + ")", Stores::three, x -> x.length(3, key), OUTSIDE);
            Unchanged.due("find(3, " + key + ", 0)", Stores::three, x -> x.find(3, key, 0), OUTSIDE);
            Unchanged.due("next(3, " + key + ")", Stores::three, x -> x.next(3, key), OUTSIDE);
        }
    }
}
