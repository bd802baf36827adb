/** Stores that tests begin with, and calls that go together. */
final class Stores {
    static final int LAST_VERSION = 1000000;

    private Stores() {
    }

    static void typeAll(DesignPages x, int... text) {
        for (int b : text) {
            x.type(b);
        }
    }

    static int put(DesignPages x, int key, int... text) {
        typeAll(x, text);
        return x.put(key);
    }

    static DesignPages down(int pages) {
        DesignPages x = new DesignPages(pages);
        x.crash(0);
        return x;
    }

    /** Versions 1 to 3 with key 5 (3 bytes), key 40, key 1023 on pages 8 to 13. */
    static DesignPages three() {
        DesignPages x = new DesignPages(20);
        put(x, 5, 10, 20, 30);
        put(x, 40, 1);
        put(x, 1023);
        return x;
    }

    /** Versions 1 and 2 with keys 0 and 1 on pages 8 to 11: so many pages are left. */
    static DesignPages left(int pages) {
        DesignPages x = new DesignPages(12 + pages);
        put(x, 0, 1);
        put(x, 1, 2);
        return x;
    }

    /** Versions up to one, each with its own number as the byte of key 7. */
    static DesignPages upTo(int version) {
        DesignPages x = new DesignPages(40);
        for (int v = 1; v <= version; v++) {
            put(x, 7, v);
        }
        return x;
    }

    /** A store that was opened with a page as the image tells. */
    static DesignPages opened(int pages, int page, int[] image) {
        DesignPages x = new DesignPages(pages);
        Image.force(x, page, image);
        x.reopen();
        return x;
    }

    /** A store that was opened at a forged root without things. */
    static DesignPages openedAt(int pages, int version, int oldest) {
        return opened(pages, version % 8, Image.root(version, oldest));
    }

    /** A store that was opened at forged roots without things, 8 of them up to a version. */
    static DesignPages openedAtEight(int pages, int version) {
        DesignPages x = new DesignPages(pages);
        for (int v = version - 7; v <= version; v++) {
            Image.forceEmpty(x, v % 8, Image.root(v, version - 7));
        }
        x.reopen();
        return x;
    }

    /**
     * Version 1 with key 77 of node 2, the node on page 9; then all that a right node and root may
     * have otherwise is changed, with sums that fit: the number, the VERSION, the bytes not told.
     */
    static DesignPages changedButRight(int number) {
        DesignPages x = new DesignPages(20);
        put(x, 77, 5, 6);
        int[] node = Image.node(number, 13, 8);
        for (int i = 34; i < 44; i++) {
            node[i] = 10 + i;
        }
        Image.force(x, 9, Image.sealed(node));
        int[] root = Image.root(9, 2, 2, 9);
        for (int i = 41; i < 44; i++) {
            root[i] = 20 + i;
        }
        Image.force(x, 1, Image.sealed(root));
        return x;
    }
}
