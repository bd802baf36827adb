import java.util.ArrayList;
import java.util.List;
import java.util.TreeSet;

/**
 * The document once more, over pages that are objects instead of bytes, as slow as it likes to be.
 * A page is taken for damaged as soon as a byte of it is changed.
 */
final class Model {
    private sealed interface Page permits Root, Node, Thing {
    }

    private record Root(int version, int oldest, int[] nodes) implements Page {
    }

    private record Node(int number, int[] things) implements Page {
    }

    private record Thing(int key, int[] text) implements Page {
    }

    private static final class PowerFails extends RuntimeException {
        private static final long serialVersionUID = 1L;
    }

    private final Page[] pages;
    private final int[][] masks;
    private final List<Integer> typed = new ArrayList<>();
    private int newest = 0;
    private int oldest = 1;
    private int left = -1;
    private int written = 0;
    private boolean down = false;

    private final TreeSet<Integer> reached = new TreeSet<>();
    private final TreeSet<Integer> bad = new TreeSet<>();

    Model(int amount) {
        pages = new Page[amount];
        masks = new int[amount][Image.BYTES];
    }

    int newest() {
        return newest;
    }

    int type(int b) {
        if (down) {
            return DesignPages.DOWN;
        }
        if (b < 0 || b > 255) {
            return DesignPages.OUTSIDE;
        }
        if (typed.size() == 32) {
            return DesignPages.FULL;
        }
        typed.add(b);
        return typed.size();
    }

    int put(int key) {
        int refusal = beforeWriting(isKey(key));
        if (refusal != 0) {
            return refusal;
        }
        List<Integer> free = free();
        if (free.size() < 2 || newest == 1000000) {
            return DesignPages.FULL;
        }
        try {
            write(free.get(0), new Thing(key, typed.stream().mapToInt(b -> b).toArray()));
            typed.clear();
            return change(key, free.get(0), free.get(1));
        } catch (PowerFails e) {
            return DesignPages.CUT;
        }
    }

    int remove(int key) {
        int refusal = beforeWriting(isKey(key));
        if (refusal != 0) {
            return refusal;
        }
        if (newest == 0 || node(root(newest), key / 32).things()[key % 32] == 0) {
            return 0;
        }
        if (free().isEmpty() || newest == 1000000) {
            return DesignPages.FULL;
        }
        try {
            return change(key, 0, free().get(0));
        } catch (PowerFails e) {
            return DesignPages.CUT;
        }
    }

    int drop(int version) {
        int refusal = beforeWriting(isKept(version) && version < newest);
        if (refusal != 0) {
            return refusal;
        }
        try {
            Root root = root(newest);
            write(newest % 8, new Root(root.version(), version + 1, root.nodes()));
        } catch (PowerFails e) {
            return DesignPages.CUT;
        }
        oldest = version + 1;
        return newest - oldest + 1;
    }

    int length(int version, int key) {
        int page = thingPage(version, key);
        return page < 0 ? page : ((Thing) pages[page]).text().length;
    }

    int find(int version, int key, int i) {
        int page = thingPage(version, key);
        if (page < 0) {
            return page;
        }
        int[] text = ((Thing) pages[page]).text();
        return i >= 0 && i < text.length ? text[i] : DesignPages.NONE;
    }

    int next(int version, int key) {
        if (down) {
            return DesignPages.DOWN;
        }
        if (!isKept(version) || !isKey(key)) {
            return DesignPages.OUTSIDE;
        }
        if (!isRight(version % 8, Root.class)) {
            return DesignPages.DAMAGED;
        }
        for (int k = key; k < 1024; k++) {
            int page = root(version).nodes()[k / 32];
            if (page != 0 && !isRight(page, Node.class)) {
                return DesignPages.DAMAGED;
            }
            if (node(root(version), k / 32).things()[k % 32] != 0) {
                return k;
            }
        }
        return DesignPages.NONE;
    }

    int crash(int n) {
        if (down) {
            return DesignPages.DOWN;
        }
        if (n < -1 || n > 1000) {
            return DesignPages.OUTSIDE;
        }
        left = n;
        if (n == 0) {
            fail();
        }
        return 1;
    }

    int reopen() {
        down = false;
        left = -1;
        typed.clear();
        newest = 0;
        oldest = 1;
        for (int page = 0; page < 8; page++) {
            if (isRight(page, Root.class) && ((Root) pages[page]).version() > newest) {
                newest = ((Root) pages[page]).version();
                oldest = ((Root) pages[page]).oldest();
            }
        }
        return newest;
    }

    int poke(int page, int i, int mask) {
        if (byteAt(page, i) == DesignPages.OUTSIDE || mask < 1 || mask > 255) {
            return DesignPages.OUTSIDE;
        }
        masks[page][i] ^= mask;
        return byteAt(page, i);
    }

    int byteAt(int page, int i) {
        if (page < 0 || page >= pages.length || i < 0 || i >= Image.BYTES) {
            return DesignPages.OUTSIDE;
        }
        return image(pages[page])[i] ^ masks[page][i];
    }

    int badAt() {
        if (down) {
            return DesignPages.DOWN;
        }
        walk();
        return bad.isEmpty() ? DesignPages.NONE : bad.first();
    }

    int count(int what) {
        if (down) {
            return DesignPages.DOWN;
        }
        return switch (what) {
            case 0 -> newest;
            case 1 -> oldest;
            case 2 -> free().size();
            case 3 -> keys();
            case 4 -> typed.size();
            default -> DesignPages.OUTSIDE;
        };
    }

    int written() {
        return written;
    }

    boolean isDown() {
        return down;
    }

    private static boolean isKey(int key) {
        return key >= 0 && key < 1024;
    }

    private boolean isKept(int version) {
        return version >= oldest && version <= newest;
    }

    private boolean isRight(int page, Class<? extends Page> kind) {
        for (int mask : masks[page]) {
            if (mask != 0) {
                return false;
            }
        }
        return kind.isInstance(pages[page]);
    }

    private Root root(int version) {
        return version == 0 ? new Root(0, 1, new int[32]) : (Root) pages[version % 8];
    }

    private Node node(Root root, int number) {
        int page = root.nodes()[number];
        return page == 0 ? new Node(number, new int[32]) : (Node) pages[page];
    }

    private int thingPage(int version, int key) {
        if (down) {
            return DesignPages.DOWN;
        }
        if (!isKept(version) || !isKey(key)) {
            return DesignPages.OUTSIDE;
        }
        if (!isRight(version % 8, Root.class)) {
            return DesignPages.DAMAGED;
        }
        int nodePage = root(version).nodes()[key / 32];
        if (nodePage != 0 && !isRight(nodePage, Node.class)) {
            return DesignPages.DAMAGED;
        }
        int page = node(root(version), key / 32).things()[key % 32];
        if (page == 0) {
            return DesignPages.NONE;
        }
        return isRight(page, Thing.class) ? page : DesignPages.DAMAGED;
    }

    private int keys() {
        int keys = 0;
        for (int key = 0; key < 1024 && newest > 0 && isRight(newest % 8, Root.class); key++) {
            int page = root(newest).nodes()[key / 32];
            if (page != 0 && isRight(page, Node.class) && ((Node) pages[page]).things()[key % 32] != 0) {
                keys++;
            }
        }
        return keys;
    }

    private int beforeWriting(boolean inside) {
        if (down) {
            return DesignPages.DOWN;
        }
        if (!inside) {
            return DesignPages.OUTSIDE;
        }
        return badAt() == DesignPages.NONE ? 0 : DesignPages.DAMAGED;
    }

    private int change(int key, int thingPage, int nodePage) {
        Root root = root(newest);
        int[] things = node(root, key / 32).things().clone();
        things[key % 32] = thingPage;
        write(nodePage, new Node(key / 32, things));
        int[] nodes = root.nodes().clone();
        nodes[key / 32] = nodePage;
        int version = newest + 1;
        int then = Math.max(oldest, version - 7);
        write(version % 8, new Root(version, then, nodes));
        newest = version;
        oldest = then;
        return version;
    }

    private void write(int page, Page content) {
        pages[page] = content;
        masks[page] = new int[Image.BYTES];
        written++;
        if (left > 0 && --left == 0) {
            fail();
            throw new PowerFails();
        }
    }

    private void fail() {
        down = true;
        typed.clear();
    }

    private void walk() {
        reached.clear();
        bad.clear();
        for (int version = oldest; version <= newest; version++) {
            reach(version % 8, Root.class);
        }
    }

    private void reach(int page, Class<? extends Page> kind) {
        reached.add(page);
        if (!isRight(page, kind)) {
            bad.add(page);
        } else if (pages[page] instanceof Root root) {
            reachAll(root.nodes(), Node.class);
        } else if (pages[page] instanceof Node node) {
            reachAll(node.things(), Thing.class);
        }
    }

    private void reachAll(int[] told, Class<? extends Page> kind) {
        for (int page : told) {
            if (page != 0) {
                reach(page, kind);
            }
        }
    }

    private List<Integer> free() {
        walk();
        List<Integer> free = new ArrayList<>();
        for (int page = 8; page < pages.length; page++) {
            if (!reached.contains(page)) {
                free.add(page);
            }
        }
        return free;
    }

    private static int[] image(Page page) {
        if (page instanceof Root root) {
            return Image.root(root.version(), root.oldest(), places(root.nodes()));
        }
        if (page instanceof Node node) {
            return Image.node(node.number(), places(node.things()));
        }
        if (page instanceof Thing thing) {
            return Image.thing(thing.key(), thing.text());
        }
        return Image.empty();
    }

    private static int[] places(int[] told) {
        int[] places = new int[2 * told.length];
        for (int i = 0; i < told.length; i++) {
            places[2 * i] = i;
            places[2 * i + 1] = told[i];
        }
        return places;
    }
}
